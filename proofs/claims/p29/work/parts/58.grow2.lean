/-! ===== the static FIRST_SETTINGS, calls of constructors, the row of stations ===== -/
def ZFd (D : xD) (z : Nat) (A : Nat → Prop) (U : State) : Prop := va_Z RX6 "FIRST_SETTINGS" "[I" (.ref z) A U U.heap ∧ va_Nw (.castable "[I" "java/lang/Cloneable") U ∧ ¬ A z ∧ xSt D z 19 firstS U ∧ va_AO RX4 U
def ZFz (E : En) (z : Nat) : Prop := match E with
  | (p, l, e, R, s, m, args, below, meth, c, Qc, Q, cs, A, nL, D, ad0) => ZFd D z A s
def ZF (E : En) : Prop := ∃ z, ZFz E z
/-- clone of an array that no world has -/
theorem va_cloneX {p : Program} {l : Launch} {e : Jvm.Env} {R : Room} {s : State} {m : MethodId} {args : Array Value} {below : List Frame} {meth : Method} {c : Code} {H : Heap} {locs : List Loc} {cells slots : Nat} {Q : State → Prop} {cc : ByteArray} {pc : Nat} {ls : Array Slot} {rest : List Value} {D : va_G} {cl : List vw_C} {A : Nat → Prop} {a : Nat} {tys : List (ClassId × FieldType)} {ws : va_W} {H0 : Heap} (hexec : p.tables.exec = Jvm.exec) (hb : c.code = cc) (hml : c.maxLocals = ls.size) {own ad : String} {index : Nat} (hown : s.vm.findClass own = some m.cls)
    (hlink : (Cond.methodLink own index ⟨ad, "clone", "()Ljava/lang/Object;"⟩).before args s = true) (hsame : (Cond.sameMethod ad "java/lang/Object" "clone" "()Ljava/lang/Object;").before args s = true) (hnat : (Cond.native ⟨"java/lang/Object", "clone", "()Ljava/lang/Object;"⟩).before args s = true) (hinst : (Cond.instanceMethod ⟨"java/lang/Object", "clone", "()Ljava/lang/Object;"⟩).before args s = true) (hsel : (Cond.selects ad ⟨ad, "clone", "()Ljava/lang/Object;"⟩ ⟨"java/lang/Object", "clone", "()Ljava/lang/Object;"⟩).before args s = true) (hcl : va_Nw (.castable ad "java/lang/Cloneable") s)
    (hK : va_K D cl tys s) (hP : va_P D cl ws H) (hD : va_D A ws) (hS : va_S A H0 H locs) (hA : ∀ q, H0.size ≤ q → A q) {scr : Cell} {cA : ClassId} {x : vp_A} {ty : FieldType} (hscr : H[a]? = some scr) (hcls : scr.cls = cA) (hst : ∀ k, scr.vm ≠ .statics k) (hkn : scr.vm ≠ .unknown) (hsl : scr.slots = (vp_cell cA x).slots) (t0 : Nat) (ht : tys[t0]? = some (cA, ty))
    (hnm : s.vm.findClass ad = some cA) (hfit : ∀ (i : Nat) (v : Value), (vp_cell cA x).slots[i]? = some v → fits ty v = true) (hframes : 1 ≤ R.frames) (hlocals : (rest.map fun v => v.category).sum + 14 ≤ R.locals) (hcells : cells + 1 ≤ R.cells) (hslots : slots + x.1 ≤ R.slots) (hdg : decode cc pc = .ok (.invokevirtual index, 3))
    (kk : ∀ (q : Nat) (H1 : Heap), va_P D cl (ws ++ [(q, .inl (cA, x))]) H1 → va_D A (ws ++ [(q, .inl (cA, x))]) → va_S A H0 H1 locs → W p l e R s m args below meth c H1 locs (cells + 1) (slots + x.1) Q (F0 m (pc + 3) ls (.ref q :: rest))) : W p l e R s m args below meth c H locs cells slots Q (F0 m pc ls (.ref a :: rest)) := by
  have hsz : (vp_cell cA x).slots.size = x.1 := by
    obtain ⟨n, f | f | f | f | f⟩ := x <;> exact arrV_size _ _ _
  have hcellE : ({ cls := scr.cls, slots := scr.slots } : Cell) = vp_cell cA x := by
    rw [hcls, hsl]
    obtain ⟨n, f | f | f | f | f⟩ := x <;> rfl
  obtain ⟨c0, t0', f1, f2, f3⟩ := Cond.castable_spec (va_Nw.use (A := args) rfl hcl)
  cases hnm.symm.trans f1
  intro T hT X
  have hcellT : T.heap[a]? = some scr := by rw [hT]; exact hscr
  obtain ⟨-, kA, hkA, comp, hkind⟩ := State.isArrayOf_alike X.warmed.alike ((hK.2 t0 _ ht).1 0 (fun _ => .null))
  obtain ⟨-, kS, hkS, compS, hkindS⟩ := (hK.2 t0 _ ht).1 0 (fun _ => .null)
  obtain ⟨vm', X', st⟩ := X.cloneArray hexec hown hlink hsame hnat hinst hsel (a := a) (cell := scr) hcellT hst hkn (by rw [hcls]; exact hnm) f2 (by rw [hcls]; exact f3)
    (fun i v hv => by
      rw [hcls]
      rw [hsl] at hv
      have hk' : T.vm.classes[cA]? = some kA := hkA
      simpa [State.fitsSlot, State.slotType?, hk', hkind] using hfit i v hv)
    (g := F0 m pc ls (.ref a :: rest)) rfl (by rw [hml]) rfl (by rw [hb]; exact hdg) hframes (by show 2 * 0 + _ + 14 ≤ _; omega) hcells (by rw [hsl, hsz]; exact hslots) (hloader := by rw [hcls]; exact Vm.clonesLoader_of_array hkS hkindS)
  rw [hcellE] at X'
  rw [hsl, hsz] at X'
  generalize hH1 : H.push (vp_cell cA x) = H1
  have z1 : H1.size = H.size + 1 := by rw [← hH1, Array.size_push]
  have e1 : H1[H.size]? = some (vp_cell cA x) := by rw [← hH1, Array.getElem?_push_size]
  have o1 : ∀ q : Nat, q < H.size → H1[q]? = H[q]? := fun q hq => by rw [← hH1, Array.getElem?_push, if_neg (Nat.ne_of_lt hq)]
  have hk : ∀ (k : Nat) (y : Nat × va_E), ws[k]? = some y → H1[y.1]? = H[y.1]? := fun k y hy => o1 y.1 ((hP k y hy).lt)
  obtain ⟨t, b1, b2⟩ := kk H.size H1 ((hP.kept hk).app (fun k y hy => by
      have hz : k < 1 := (List.getElem?_eq_some_iff.mp hy).1
      rw [show k = 0 by omega] at hy
      cases hy
      exact e1)) (hD.push hP rfl (hA _ hS.1)) ⟨Nat.le_trans hS.1 (by omega), fun y h1 h2 => (o1 y (Nat.lt_of_lt_of_le h1 hS.1)).trans (hS.2.1 y h1 h2), hS.2.2⟩
    ((T.setVm vm').pushCell (vp_cell cA x)) (by rw [← hH1, ← hT]; rfl) X'
  refine ⟨t, st t ?_, b2⟩
  rw [hcellE, hT]
  exact b1
/-- a constructor's contract that reads the static -/
def ConF (y : MethodName) (cc : ByteArray) (maxL d : Nat) (k : Nat × Nat) (c0 : xCell) (w1 : xW) : Prop := ∀ (l : Launch) (D : xD) (z a sz : Nat), a < sz → Met l y (.code y cc maxL none :: WS) { frames := d, cells := k.1, slots := k.2, locals := 36 * d } (va_Pc [.ref a] (fun U => (U.heap.size = sz ∧ va_P (D.1, D.2.1) classes (xw D (fun _ => a) [c0]) U.heap ∧ xKn D U) ∧ ZFd D z (newA a sz) U)) (fun _ st oc t => oc = .returned none ∧ va_F (newA a sz) st t ∧ ∃ ad : Nat → Nat, ad 0 = a ∧ va_P (D.1, D.2.1) classes (xw D ad w1) t.heap ∧ xap (newA a sz) ad w1.length) k.1 k.2 (newA a sz)
theorem ConF.of {y : MethodName} {cc : ByteArray} {maxL d : Nat} {k : Nat × Nat} {c0 : xCell} {w1 : xW} (hy : plainName y.cls = true) (hi : y.name = "<init>") (hm : 1 ≤ maxL) (hc0 : cok 0 c0)
    (body : ∀ E : En, Fx E y.cls cc maxL d → Fr E none → inIt E → csIs E k → (∀ k' n : Nat × Nat, n.1 + k'.1 ≤ k.1 → n.2 + k'.2 ≤ k.2 → rmOf E k' n) → GiEnd E w1 → ZF E → Gi E (0, 0) 0 (xarg [.ref 0] maxL) [] [c0]) : ConF y cc maxL d k c0 w1 := by
  intro l D z a sz ha
  refine Met.ofW (cc := cc) (maxL := maxL) (ret := none) hy rfl ?_
  intro p e s m args below meth c s₁ B hml hv
  obtain ⟨rfl, ⟨hsz, hP, hK⟩, hZ⟩ := hv
  have hts := atoms_spec (ws := .code y cc maxL none :: WS) B.pre
  have hown : s.vm.findClass y.cls = some m.cls := findClass_of_methodNamed B.named
  have hin : meth.name = "<init>" := (name_of_methodNamed B.named B.method).1.trans hi
  subst hsz
  have hF : Fx (p, l, e, (headSpec (.code y cc maxL none :: WS) { frames := d, cells := k.1, slots := k.2, locals := 36 * d }).room, s, m, ([.ref a] : List Value).toArray, below, meth, c, (fun _ st oc t => oc = .returned none ∧ va_F (newA a s.heap.size) st t ∧ ∃ ad : Nat → Nat, ad 0 = a ∧ va_P (D.1, D.2.1) classes (xw D ad w1) t.heap ∧ xap (newA a s.heap.size) ad w1.length), MQ below (fun _ st oc t => oc = .returned none ∧ va_F (newA a s.heap.size) st t ∧ ∃ ad : Nat → Nat, ad 0 = a ∧ va_P (D.1, D.2.1) classes (xw D ad w1) t.heap ∧ xap (newA a s.heap.size) ad w1.length) ([.ref a] : List Value).toArray s k.1 k.2 (newA a s.heap.size), k, newA a s.heap.size, maxL, D, (fun _ => a)) y.cls cc maxL d :=
    ⟨B.exec, B.bytes, hml, rfl, hown, fun w hw => hts w (List.mem_cons_of_mem _ hw), B.notSynchronized, hK, fun q hq => Or.inr hq, Nat.le_refl _, Nat.le_refl _, Nat.le_refl _, Nat.le_refl _⟩
  have h := body _ hF ⟨B.returns, rfl⟩ hin rfl (fun k' n h1 h2 => ⟨h1, h2⟩) (fun ad H locs h0 hP' hap hS t ht _ => ⟨rfl, hS.F ht, ad, h0, by rw [ht]; exact hP', hap⟩) ⟨z, hZ⟩
  have hl := lv_entry ([.ref a] : List Value) (n := maxL) (by simpa [lg_sl, Value.category] using hm)
  rw [lg_entry_eq]
  refine h (fun _ => a) s.heap [] rfl hP ⟨fun i j hi hj _ => ?_, fun i _ => Or.inl rfl⟩ va_S.rf (by simp [xarg, xargs]; omega) (xno_args [.ref 0] (by simp [xplain]) _) _ ?_
  · have h1 : i < 1 := hi
    have h2 : j < 1 := hj
    omega
  · rw [show lvp (fun _ => a) 0 (xarg [.ref 0] maxL) = lv_args 0 ([.ref a] : List Value) by rw [xarg, lvp_app, lvp_none, List.append_nil]; rfl]
    exact hl
theorem xw_one (D : xD) {ad : Nat → Nat} {w : xW} {c0 : xCell} (hc0 : cok 0 c0) {H : Heap} (hP : va_P (D.1, D.2.1) classes (xw D ad (w ++ [c0])) H) : va_P (D.1, D.2.1) classes (xw D (fun _ => ad w.length) [c0]) H := by
  have e : xw D (fun _ => ad w.length) [c0] = [(ad w.length, xc D ad c0)] := by
    show [(ad w.length, xc D (fun _ => ad w.length) c0)] = _
    rw [xc_ext (n := 0) (ad := ad) (ad' := fun _ => ad w.length) (fun i hi => absurd hi (Nat.not_lt_zero i)) D hc0]
  rw [e]
  rw [xw_app] at hP
  intro k q hq
  exact hP (w.length + k) q (by rw [List.getElem?_append_right (by rw [xw_len]; omega), xw_len, show w.length + k - w.length = k by omega]; exact hq)
section
variable {E : En} {own : String} {cc : ByteArray} {maxL d pc : Nat} {n : Nat × Nat} {L : xL} {st : List Value} {w : xW}
theorem PcOk_I (F : Fx E own cc maxL d) {c0 : xCell} (hc0 : cok 0 c0) : PcOk E (fun D a sz => va_Pc [.ref a] (fun U => U.heap.size = sz ∧ va_P (D.1, D.2.1) classes (xw D (fun _ => a) [c0]) U.heap ∧ xKn D U)) (w ++ [c0]) w.length := by
  obtain ⟨p, l, e, R, s, m, args, below, meth, c, Qc, Q, cs, A, nL, D, ad0⟩ := E
  refine ⟨fun a sz args U g mk q => ⟨q.1, q.2.1, q.2.2.1, q.2.2.2.calling g mk args⟩, fun ad H locs h0 hP hap hS U hU hW => ⟨rfl, by rw [hU], ?_, F.2.2.2.2.2.2.2.1.warm hW⟩⟩
  rw [hU]
  exact xw_one D hc0 hP
theorem ZF_AO (hZ : ZF E) : AOE E := by
  obtain ⟨p, l, e, R, s, m, args, below, meth, c, Qc, Q, cs, A, nL, D, ad0⟩ := E
  obtain ⟨z, z1, z2, z3, z4, z5⟩ := hZ
  exact z5
theorem PcOk_Fz (F : Fx E own cc maxL d) {c0 : xCell} (hc0 : cok 0 c0) {z : Nat} (hZ : ZFz E z) : PcOk E (fun D a sz => va_Pc [.ref a] (fun U => (U.heap.size = sz ∧ va_P (D.1, D.2.1) classes (xw D (fun _ => a) [c0]) U.heap ∧ xKn D U) ∧ ZFd D z (newA a sz) U)) (w ++ [c0]) w.length := by
  obtain ⟨p, l, e, R, s, m, args, below, meth, c, Qc, Q, cs, A, nL, D, ad0⟩ := E
  obtain ⟨z1, z2, z3, z4, z5⟩ := hZ
  refine ⟨fun a sz args U g mk q => ⟨q.1, ⟨q.2.1.1, q.2.1.2.1, q.2.1.2.2.calling g mk args⟩, va_Z.moved (u := U) (U := U.calling g mk args) (Vm.Alike.refl U.vm) q.2.2.1, va_Nw.same rfl rfl q.2.2.2.1, q.2.2.2.2.1, q.2.2.2.2.2.1, va_AO.moved (u := U) (U := U.calling g mk args) (Vm.Alike.refl U.vm) q.2.2.2.2.2.2⟩, fun ad H locs h0 hP hap hS U hU hW => ?_⟩
  have hA' : ∀ q, newA (ad w.length) H.size q → A q := fun q hq => by
    rcases hq with rfl | hq
    · exact hap.2 _ (by simp)
    · exact F.2.2.2.2.2.2.2.2.1 q (Nat.le_trans hS.1 hq)
  refine ⟨rfl, ⟨by rw [hU], ?_, F.2.2.2.2.2.2.2.1.warm hW⟩, ?_, va_Nw.warmC hW z2, fun q => z3 (hA' _ q), ?_, va_AO.moved hW.alike z5⟩
  · rw [hU]
    exact xw_one D hc0 hP
  · rw [hU]
    exact va_Z_sub hS hA' hW.alike z1
  · exact xSt.old hS z3 hU z4
theorem gi_call (F : Fx E own cc maxL d) {ix : Nat} {host : String} {y : MethodName} {ycc : ByteArray} {ymL dy : Nat} {k : Nat × Nat} {c0 : xCell} {w1 : xW} (hM : ConI y ycc ymL dy k c0 w1) (hc0 : cok 0 c0) (hck : cokI own ix host y ycc ymL = true) (hdd : dy + 1 ≤ d) (hd : decode cc pc = .ok (.invokespecial ix, 3)) (hwk : wok w) (hw0 : 0 < w.length) (hLr : rlL w.length L) (hsr : ∀ v ∈ st, rl w.length v ∨ v = .ref w.length) (hs4 : st.length ≤ 4) (hw1 : 0 < w1.length) (hrm : rmOf E k n)
    (kk : Gi E (n.1 + k.1, n.2 + k.2) (pc + 3) L st (w ++ sh w.length w1)) : Gi E n pc L (.ref w.length :: st) (w ++ [c0]) :=
  gi_run F hc0 hM (PcOk_I F hc0) hck hdd hd hwk hw0 hLr hsr hs4 hw1 hrm kk
theorem gi_callF (F : Fx E own cc maxL d) (hZ : ZF E) {ix : Nat} {host : String} {y : MethodName} {ycc : ByteArray} {ymL dy : Nat} {k : Nat × Nat} {c0 : xCell} {w1 : xW} (hM : ConF y ycc ymL dy k c0 w1) (hc0 : cok 0 c0) (hck : cokI own ix host y ycc ymL = true) (hdd : dy + 1 ≤ d) (hd : decode cc pc = .ok (.invokespecial ix, 3)) (hwk : wok w) (hw0 : 0 < w.length) (hLr : rlL w.length L) (hsr : ∀ v ∈ st, rl w.length v ∨ v = .ref w.length) (hs4 : st.length ≤ 4) (hw1 : 0 < w1.length) (hrm : rmOf E k n)
    (kk : Gi E (n.1 + k.1, n.2 + k.2) (pc + 3) L st (w ++ sh w.length w1)) : Gi E n pc L (.ref w.length :: st) (w ++ [c0]) := by
  obtain ⟨z, hz⟩ := hZ
  exact gi_run F hc0 (fun l D => hM l D z) (PcOk_Fz F hc0 hz) hck hdd hd hwk hw0 hLr hsr hs4 hw1 hrm kk
/-- FIRST_SETTINGS.clone(), and its cast -/
theorem gi_first (F : Fx E RX4 cc maxL d) (hZ : ZF E) (h1d : 1 ≤ d) (hw : wsHas [.methodLink RX4 13 ⟨"[I", "clone", "()Ljava/lang/Object;"⟩, .sameMethod "[I" "java/lang/Object" "clone" "()Ljava/lang/Object;", .native ⟨"java/lang/Object", "clone", "()Ljava/lang/Object;"⟩, .instanceMethod ⟨"java/lang/Object", "clone", "()Ljava/lang/Object;"⟩, .selects "[I" ⟨"[I", "clone", "()Ljava/lang/Object;"⟩ ⟨"java/lang/Object", "clone", "()Ljava/lang/Object;"⟩, .classLink RX4 14 "[I"] = true) (hd1 : decode cc pc = .ok (.getstatic 9, 3)) (hd2 : decode cc (pc + 3) = .ok (.invokevirtual 13, 3)) (hd3 : decode cc (pc + 3 + 3) = .ok (.checkcast 14, 3)) (hwk : wok w) (hw0 : 0 < w.length) (hLr : rlL w.length L) (hsr : ∀ v ∈ st, rl w.length v) (hs4 : st.length ≤ 4) (hrm : rmOf E (1, 19) n)
    (kk : Gi E (n.1 + 1, n.2 + 19) (pc + 3 + 3 + 3) L (.ref w.length :: st) (w ++ [.inl (0, 19, firstS)])) : Gi E n pc L st w := by
  obtain ⟨p, l, e, R, s, m, args, below, meth, c, Qc, Q, cs, A, nL, D, ad0⟩ := E
  obtain ⟨h1, h2, h3, h4, h5, h6, h7, h8, h9, h10, h11, h12, h13⟩ := id F
  obtain ⟨z, z1, z2, z3, z4, z5⟩ := hZ
  have hz := fun w (hh : w ∈ _) => wsHas_mem hw hh
  intro ad H locs h0 hP hap hS hL hn ls hl
  refine va_getsN h1 h2 z1 hS h5 (va_Nw.use rfl h8.2.2) (fun _ h => h) hd1 ?_
  have hlen : (xw D ad w).length = w.length := xw_len D ad w
  have hcat := cat_sum8 (ad := ad) hs4
  have hnm := va_nm_int (h8.1.2 0 (D.2.2 0, .int) rfl).2
  obtain ⟨scr, s1, s2, s3, s4, s5⟩ := z4
  have hscr : H[z]? = some scr := (hS.2.1 z (Array.getElem?_eq_some_iff.mp s1).1 z3).trans s1
  refine va_cloneX (D := (D.1, D.2.1)) (x := (19, .inl firstS)) (ty := .int) (cA := D.2.2 0) h1 h2 (h3.trans hl.1.symm) h5 (h6 _ (hz _ (by simp))) (h6 _ (hz _ (by simp))) (h6 _ (hz _ (by simp))) (h6 _ (hz _ (by simp))) (h6 _ (hz _ (by simp))) z2 h8.1 hP (xap_D D hap) hS h9 hscr s2 s3 s4 s5 0 rfl hnm (va_fit (F := fun j => .int (firstS j)) (fun _ _ => rfl)) (by omega) (by omega) hrm.1 hrm.2 hd2 (fun q H1 hP1 hD1 hS1 => ?_)
  have hat2 : (xw D ad w ++ [(q, (.inl (D.2.2 0, 19, .inl firstS) : va_E))])[w.length]? = some (q, .inl (D.2.2 0, 19, .inl firstS)) := by
    rw [List.getElem?_append_right (by omega), hlen, Nat.sub_self]
    rfl
  refine va_castA (D := (D.1, D.2.1)) (cA := D.2.2 0) (x := (19, .inl firstS)) h1 h2 h5 (h6 _ (hz _ (by simp))) hP1 w.length hat2 hnm hd3 ?_
  have hext : ∀ i, i < w.length → (fun i => if i = w.length then q else ad i) i = ad i := fun i hi => if_neg (by omega)
  have hq : (fun i => if i = w.length then q else ad i) w.length = q := if_pos rfl
  generalize (fun i => if i = w.length then q else ad i) = ad' at hext hq
  have hw' : xw D ad' (w ++ [.inl (0, 19, firstS)]) = xw D ad w ++ [(q, .inl (D.2.2 0, 19, .inl firstS))] := by
    rw [xw_app, xw_ext D hext hwk, hq]
    rfl
  have hl' : lv_has ls nL (lvp ad' 0 L) := by rw [lvp_ext hext L 0 hLr]; exact hl
  have hap' : xap A ad' (w ++ [(.inl (0, 19, firstS) : xCell)]).length := by
    rw [← hw'] at hD1
    have gg : ∀ i, i < (w ++ [(.inl (0, 19, firstS) : xCell)]).length → ∃ c, (xw D ad' (w ++ [.inl (0, 19, firstS)]))[i]? = some (ad' i, c) := fun i hi => by
      rw [xw_get, List.getElem?_eq_getElem hi]
      exact ⟨_, rfl⟩
    refine ⟨fun i j hi hj hij => ?_, fun i hi => ?_⟩
    · obtain ⟨c1, g1⟩ := gg i hi
      obtain ⟨c2, g2⟩ := gg j hj
      exact hD1.1 i j _ _ g1 g2 hij
    · obtain ⟨c1, g1⟩ := gg i hi
      exact hD1.2 i _ g1
  have hres := kk ad' H1 locs ((hext 0 hw0).trans h0) (by rw [hw']; exact hP1) hap' hS1 hL hn ls hl'
  rw [List.map_cons, st_ext hext hsr] at hres
  have e1 : xv ad' (.ref w.length) = .ref q := congrArg Value.ref hq
  rw [e1] at hres
  exact hres
theorem gi_getf (F : Fx E own cc maxL d) {ix ci slot k : Nat} {v : Value} {fs : List Value} (hg : w[k]? = some (.inr (.inl (ci, fs)))) (hv : fs[slot]? = some v) (hf : fldOk own ix ci slot = true) (hd : decode cc pc = .ok (.getfield ix, 3)) (kk : Gi E n (pc + 3) L (v :: st) w) : Gi E n pc L (.ref k :: st) w := by
  obtain ⟨p, l, e, R, s, m, args, below, meth, c, Qc, Q, cs, A, nL, D, ad0⟩ := E
  obtain ⟨C, T, N, hc, hs, hw⟩ := fldOk_spec hf
  obtain ⟨c1, c2, c3⟩ := xcls hc
  intro ad H locs h0 hP hap hS hL hn ls hl
  exact va_get (D := (_, _)) (C := C) (T := T) (N := N) (ci := ci) (fs := fs.map (xv _)) F.1 F.2.1 F.2.2.2.2.2.1 c1 F.2.2.2.2.1 F.2.2.2.2.2.2.2.1.1 hP k (by rw [xw_get, hg]; rfl) hc slot hs (F.2.2.2.2.2.1 _ hw) (fun _ h9 => h9) (by rw [List.getElem?_map, hv]; rfl) hd (kk ad H locs h0 hP hap hS hL hn ls hl)
theorem gi_aast (F : Fx E own cc maxL d) {i : Int32} {v N j : Nat} {f : Nat → Option Nat} {fs : List Value} {u t : xW} {q : Nat} (hw : w = u ++ (.inr (.inr (N, f)) :: t)) (hq : u.length = q) (hv : w[v]? = some (.inr (.inl (4, fs)))) (hi : i.toNatClampNeg = j) (hin : vp_in i N) (hd : decode cc pc = .ok (.aastore, 1)) (kk : Gi E n (pc + 1) L st (u ++ (.inr (.inr (N, va_up f j (some v))) :: t))) : Gi E n pc L (.ref v :: .int i :: .ref q :: st) w := by
  obtain ⟨p, l, e, R, s, m, args, below, meth, c, Qc, Q, cs, A, nL, D, ad0⟩ := E
  subst hi
  intro ad H locs h0 hP hap hS hL hn ls hl
  have hg : w[q]? = some (.inr (.inr (N, f))) := by
    rw [hw, List.getElem?_append_right (by omega), hq, Nat.sub_self]
    rfl
  have hw2 : w.set q (.inr (.inr (N, va_up f i.toNatClampNeg (some v)))) = u ++ (.inr (.inr (N, va_up f i.toNatClampNeg (some v))) :: t) := by
    rw [hw, List.set_append_right _ _ (by omega), hq, Nat.sub_self]
    rfl
  rw [← hw2] at kk
  refine va_astq (r := (RX4, TX4, 17)) F.1 F.2.1 F.2.2.2.2.2.2.2.1.1 hP (xap_D _ hap) hS q 3 v 4 (by rw [xw_get, hg]; rfl) (xty_get _ (t := 3) (by decide)) (by rw [xw_get, hv]; rfl) rfl hin hd (fun H1 locs1 hP1 hD1 hS1 => ?_)
  refine kk ad H1 locs1 h0 ?_ (xap_len hap (by simp)) hS1 hL hn ls hl
  rw [xw_set]
  simp only [xc, va_up_map]
  exact hP1
theorem gi_istore (F : Fx E own cc maxL d) {k : Fin 4} {i : Nat} {x : Int32} (hd : decode cc pc = .ok (.istore_n k, 1)) (hi : (k : Nat) = i) (hm : i < maxL) (kk : Gi E n (pc + 1) (xst1 L i (.int x)) st w) : Gi E n pc L (.int x :: st) w := by
  obtain ⟨p, l, e, R, s, m, args, below, meth, c, Qc, Q, cs, A, nL, D, ad0⟩ := E
  intro ad H locs h0 hP hap hS hL hn ls hl
  exact lv_istore_n F.1 F.2.1 hd hi hl (by rw [F.2.2.2.1]; exact hm) rfl (fun ls' hl' => kk ad H locs h0 hP hap hS (by rw [xst1_len]; exact hL) (xno_st1 hn _ (fun h => by cases h)) ls' (lvp_st1 (v := .int _) hn hl'))
theorem gi_iload (F : Fx E own cc maxL d) {k : Fin 4} {i : Nat} {x : Int32} (hd : decode cc pc = .ok (.iload_n k, 1)) (hi : (k : Nat) = i) (hx : L[i]? = some (some (.int x))) (kk : Gi E n (pc + 1) L (.int x :: st) w) : Gi E n pc L st w := by
  obtain ⟨p, l, e, R, s, m, args, below, meth, c, Qc, Q, cs, A, nL, D, ad0⟩ := E
  intro ad H locs h0 hP hap hS hL hn ls hl
  exact lv_iload_n F.1 F.2.1 hd hi (lvp_at hl hx) (kk ad H locs h0 hP hap hS hL hn ls hl)
theorem gi_iinc (F : Fx E own cc maxL d) {i : Nat} {k : Int} {v x y : Int32} (hd : decode cc pc = .ok (.iinc i k, 3)) (hv : Int32.ofInt k = v) (hm : i < maxL) (hx : L[i]? = some (some (.int x))) (hy : x + v = y) (kk : Gi E n (pc + 3) (xst1 L i (.int y)) st w) : Gi E n pc L st w := by
  obtain ⟨p, l, e, R, s, m, args, below, meth, c, Qc, Q, cs, A, nL, D, ad0⟩ := E
  subst hy
  intro ad H locs h0 hP hap hS hL hn ls hl
  obtain ⟨k, hk2⟩ := List.getElem?_of_mem ((lvp_mem (ad := ad) L 0 i _).mpr ⟨i, .int x, by omega, hx, rfl⟩)
  exact lv_iinc F.1 F.2.1 hd hl hk2 (by rw [hv]) (by rw [F.2.2.2.1]; exact hm) rfl (fun ls' hl' => kk ad H locs h0 hP hap hS (by rw [xst1_len]; exact hL) (xno_st1 hn _ (fun h => by cases h)) ls' (lvp_st1 (v := .int _) hn hl'))
theorem gi_goto (F : Fx E own cc maxL d) {off : Int} {tgt : Nat} (hd : decode cc pc = .ok (.goto off, 3)) (ht : (pc : Int) + off = (tgt : Int)) (kk : Gi E n tgt L st w) : Gi E n pc L st w := by
  obtain ⟨p, l, e, R, s, m, args, below, meth, c, Qc, Q, cs, A, nL, D, ad0⟩ := E
  intro ad H locs h0 hP hap hS hL hn ls hl
  exact lv_goto F.1 F.2.1 hd ht (kk ad H locs h0 hP hap hS hL hn ls hl)
theorem gi_icmp_ge (F : Fx E own cc maxL d) {off : Int} {tgt : Nat} {x y : Int32} (hd : decode cc pc = .ok (.if_icmp .ge off, 3)) (ht : (pc : Int) + off = (tgt : Int)) (k1 : ¬ x < y → Gi E n tgt L st w) (k2 : x < y → Gi E n (pc + 3) L st w) : Gi E n pc L (.int y :: .int x :: st) w := by
  obtain ⟨p, l, e, R, s, m, args, below, meth, c, Qc, Q, cs, A, nL, D, ad0⟩ := E
  intro ad H locs h0 hP hap hS hL hn ls hl
  exact lv_icmp_ge F.1 F.2.1 hd ht (fun q => k1 (Int32.not_lt.mpr q) ad H locs h0 hP hap hS hL hn ls hl) (fun q => k2 (Int32.not_le.mp q) ad H locs h0 hP hap hS hL hn ls hl)
end
