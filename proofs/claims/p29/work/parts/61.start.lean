/-! ===== the law's start: a world that grows out of nothing; places from 1000 on stand for what no world has ===== -/
def rlj (n : Nat) : Value → Prop
  | .ref k => k < n ∨ 1000 ≤ k
  | _ => True
def rljL (n : Nat) (L : xL) : Prop := ∀ v, some v ∈ L → rlj n v
theorem xv_extj {n : Nat} {ad ad' : Nat → Nat} (h : ∀ i, i < n ∨ 1000 ≤ i → ad' i = ad i) {v : Value} (hv : rlj n v) : xv ad' v = xv ad v := by
  cases v <;> first | rfl | exact congrArg Value.ref (h _ hv)
theorem lvp_extj {n : Nat} {ad ad' : Nat → Nat} (h : ∀ i, i < n ∨ 1000 ≤ i → ad' i = ad i) : ∀ (L : xL) (k : Nat), rljL n L → lvp ad' k L = lvp ad k L
  | [], _, _ => rfl
  | none :: t, k, hL => lvp_extj h t (k + 1) (fun v hv => hL v (List.mem_cons_of_mem _ hv))
  | some v :: t, k, hL => by
    rw [lvp, lvp, xv_extj h (hL v List.mem_cons_self), lvp_extj h t (k + 1) (fun v hv => hL v (List.mem_cons_of_mem _ hv))]
def Gj (E : En) (n : Nat × Nat) (pc : Nat) (L : xL) (st : List Value) (w : xW) : Prop :=
  match E with
  | (p, l, e, R, s, m, args, below, meth, c, Qc, Q, cs, A, nL, D, ad0) =>
    ∀ (ad : Nat → Nat) (H : Heap) (locs : List Loc), (∀ i, 1000 ≤ i → ad i = ad0 i) → va_P (D.1, D.2.1) classes (xw D ad w) H → xap A ad w.length → va_S A s.heap H locs → L.length = nL → xno L → ∀ ls : Array Slot, lv_has ls nL (lvp ad 0 L) → W p l e R s m args below meth c H locs n.1 n.2 Q (F0 m pc ls (st.map (xv ad)))
def cokJ (own : String) (ix : Nat) (y : MethodName) (cc : ByteArray) (maxL : Nat) : Bool :=
  wsHas [.methodLink own ix y, .instanceMethod y, .initialized y.cls, .code y cc maxL none] && decide (y.name = "<init>" ∧ y.cls ≠ "java/lang/invoke/MethodHandle" ∧ y.cls ≠ "java/lang/invoke/VarHandle" ∧ (parseMethodDescriptor y.desc).map (fun d => d.parameters.length) = some 0 ∧ maxL ≤ 17)
section
variable {E : En} {own : String} {cc : ByteArray} {maxL d pc : Nat} {n : Nat × Nat} {L : xL} {st : List Value} {w : xW}
theorem gj_dup (F : Fx E own cc maxL d) {j : Nat} (hd : decode cc pc = .ok (.dup, 1)) (kk : Gj E n (pc + 1) L (.ref j :: .ref j :: st) w) : Gj E n pc L (.ref j :: st) w := by
  obtain ⟨p, l, e, R, s, m, args, below, meth, c, Qc, Q, cs, A, nL, D, ad0⟩ := E
  intro ad H locs h0 hP hap hS hL hn ls hl
  exact lv_dup F.1 F.2.1 hd rfl (kk ad H locs h0 hP hap hS hL hn ls hl)
theorem gj_iconst (F : Fx E own cc maxL d) {k : Int} {v : Int32} (hd : decode cc pc = .ok (.iconst k, 1)) (hv : Int32.ofInt k = v) (kk : Gj E n (pc + 1) L (.int v :: st) w) : Gj E n pc L st w := by
  obtain ⟨p, l, e, R, s, m, args, below, meth, c, Qc, Q, cs, A, nL, D, ad0⟩ := E
  intro ad H locs h0 hP hap hS hL hn ls hl
  exact lv_iconst F.1 F.2.1 hd hv (kk ad H locs h0 hP hap hS hL hn ls hl)
theorem gj_istore (F : Fx E own cc maxL d) {k : Fin 4} {i : Nat} {x : Int32} (hd : decode cc pc = .ok (.istore_n k, 1)) (hi : (k : Nat) = i) (hm : i < maxL) (kk : Gj E n (pc + 1) (xst1 L i (.int x)) st w) : Gj E n pc L (.int x :: st) w := by
  obtain ⟨p, l, e, R, s, m, args, below, meth, c, Qc, Q, cs, A, nL, D, ad0⟩ := E
  intro ad H locs h0 hP hap hS hL hn ls hl
  exact lv_istore_n F.1 F.2.1 hd hi hl (by rw [F.2.2.2.1]; exact hm) rfl (fun ls' hl' => kk ad H locs h0 hP hap hS (by rw [xst1_len]; exact hL) (xno_st1 hn _ (fun h => by cases h)) ls' (lvp_st1 (v := .int _) hn hl'))
theorem gj_astore (F : Fx E own cc maxL d) {k : Fin 4} {i x : Nat} (hd : decode cc pc = .ok (.astore_n k, 1)) (hi : (k : Nat) = i) (hm : i < maxL) (kk : Gj E n (pc + 1) (xst1 L i (.ref x)) st w) : Gj E n pc L (.ref x :: st) w := by
  obtain ⟨p, l, e, R, s, m, args, below, meth, c, Qc, Q, cs, A, nL, D, ad0⟩ := E
  intro ad H locs h0 hP hap hS hL hn ls hl
  exact lv_astore_n F.1 F.2.1 hd hi hl (by rw [F.2.2.2.1]; exact hm) rfl (fun ls' hl' => kk ad H locs h0 hP hap hS (by rw [xst1_len]; exact hL) (xno_st1 hn _ (fun h => by cases h)) ls' (lvp_st1 (v := .ref _) hn hl'))
theorem gj_new (F : Fx E own cc maxL d) {ix ci N : Nat} {C : String} {T : u_T} {fs : List Value} (hc : classes[ci]? = some (C, T, N)) (hfs : ∀ ad : Nat → Nat, fs.map (xv ad) = fs) (hdef : ∀ j, j < N → defaultValue (tyOf ci j) = vp_V fs j) (hw : wsHas [.classLink own ix C, .instantiable C N, .initialized C] = true) (hd : decode cc pc = .ok (.new ix, 3)) (hwk : wok w) (hw9 : w.length < 1000) (hLr : rljL w.length L) (hsr : ∀ v ∈ st, rlj w.length v) (hrm : rmOf E (1, N) n) (kk : Gj E (n.1 + 1, n.2 + N) (pc + 3) L (.ref w.length :: st) (w ++ [.inr (.inl (ci, fs))])) : Gj E n pc L st w := by
  obtain ⟨p, l, e, R, s, m, args, below, meth, c, Qc, Q, cs, A, nL, D, ad0⟩ := E
  obtain ⟨h1, h2, h3, h4, h5, h6, h7, h8, h9, h10⟩ := id F
  obtain ⟨c1, c2, c3⟩ := xcls hc
  have hz := fun w (hh : w ∈ _) => wsHas_mem hw hh
  intro ad H locs h0 hP hap hS hL hn ls hl
  refine va_new (D := (D.1, D.2.1)) (C := C) (T := T) (N := N) (ci := ci) (fs := fs) h1 h2 h6 c1 (tyOf ci) c2 h5 (h6 _ (hz _ (by simp))) (h6 _ (hz _ (by simp))) (h6 _ (hz _ (by simp))) h8.1 hP (xap_D D hap) hS h9 hc hdef hrm.1 hrm.2 hd (fun q H1 hP1 hD1 hS1 => ?_)
  have hext : ∀ i, i < w.length ∨ 1000 ≤ i → (fun i => if i = w.length then q else ad i) i = ad i := fun i hi => if_neg (by omega)
  have hq : (fun i => if i = w.length then q else ad i) w.length = q := if_pos rfl
  generalize (fun i => if i = w.length then q else ad i) = ad' at hext hq
  have hw' : xw D ad' (w ++ [.inr (.inl (ci, fs))]) = xw D ad w ++ [(q, .inr (ci, fs))] := by
    rw [xw_app, xw_ext D (fun i hi => hext i (Or.inl hi)) hwk, hq]
    show _ ++ [(q, Sum.inr (ci, fs.map (xv ad')))] = _
    rw [hfs]
  have hl' : lv_has ls nL (lvp ad' 0 L) := by rw [lvp_extj hext L 0 hLr]; exact hl
  have hap' : xap A ad' (w ++ [(.inr (.inl (ci, fs)) : xCell)]).length := by
    rw [← hw'] at hD1
    have gg : ∀ i, i < (w ++ [(.inr (.inl (ci, fs)) : xCell)]).length → ∃ c, (xw D ad' (w ++ [.inr (.inl (ci, fs))]))[i]? = some (ad' i, c) := fun i hi => by
      rw [xw_get, List.getElem?_eq_getElem hi]
      exact ⟨_, rfl⟩
    refine ⟨fun i j hi hj hij => ?_, fun i hi => ?_⟩
    · obtain ⟨c1, g1⟩ := gg i hi
      obtain ⟨c2, g2⟩ := gg j hj
      exact hD1.1 i j _ _ g1 g2 hij
    · obtain ⟨c1, g1⟩ := gg i hi
      exact hD1.2 i _ g1
  have hres := kk ad' H1 locs (fun i hi => (hext i (Or.inr hi)).trans (h0 i hi)) (by rw [hw']; exact hP1) hap' hS1 hL hn ls hl'
  have hst : st.map (xv ad') = st.map (xv ad) := List.map_congr_left (fun v hv => xv_extj hext (hsr v hv))
  rw [List.map_cons, hst] at hres
  have e1 : xv ad' (.ref w.length) = .ref q := congrArg Value.ref hq
  rw [e1] at hres
  exact hres
set_option maxHeartbeats 1000000 in
theorem gj_run (F : Fx E own cc maxL d) {ix : Nat} {y : MethodName} {ycc : ByteArray} {ymL dy : Nat} {k : Nat × Nat} {c0 : xCell} {w1 : xW} {Pc : xD → Nat → Nat → Array Value → State → Prop} (hc0 : cok 0 c0)
    (hM : ∀ (l : Launch) (D : xD) (a sz : Nat), a < sz → Met l y (.code y ycc ymL none :: WS) { frames := dy, cells := k.1, slots := k.2, locals := 36 * dy } (Pc D a sz) (fun _ st oc t => oc = .returned none ∧ va_F (newA a sz) st t ∧ ∃ ad : Nat → Nat, ad 0 = a ∧ va_P (D.1, D.2.1) classes (xw D ad w1) t.heap ∧ xap (newA a sz) ad w1.length) k.1 k.2 (newA a sz))
    (hPc : ∀ ad : Nat → Nat, PcOk (setAd E ad) Pc (w ++ [c0]) w.length) (hck : cokJ own ix y ycc ymL = true) (hdd : dy + 1 ≤ d) (hd : decode cc pc = .ok (.invokespecial ix, 3)) (hwk : wok w) (hw1k : wok w1) (hw9 : w.length + w1.length ≤ 1000) (hLr : rljL w.length L) (hsr : ∀ v ∈ st, rlj w.length v ∨ v = .ref w.length) (hs4 : st.length ≤ 4) (hw1 : 0 < w1.length) (hrm : rmOf E k n)
    (kk : Gj E (n.1 + k.1, n.2 + k.2) (pc + 3) L st (w ++ sh w.length w1)) : Gj E n pc L (.ref w.length :: st) (w ++ [c0]) := by
  obtain ⟨p, l, e, R, s, m, args, below, meth, c, Qc, Q, cs, A, nL, D, ad0⟩ := E
  obtain ⟨h1, h2, h3, h4, h5, h6, h7, h8, h9, h10, h11, h12, h13⟩ := id F
  simp only [cokJ, Bool.and_eq_true, decide_eq_true_eq] at hck
  obtain ⟨hws, hin, hd1, hd2, hd3, hd4⟩ := hck
  have hz := fun w (hh : w ∈ _) => wsHas_mem hws hh
  intro ad H locs h0 hP hap hS hL hn ls hl
  have hlen : (w ++ [c0]).length = w.length + 1 := by simp
  have hPw : va_P (D.1, D.2.1) classes (xw D ad w) H := by
    rw [xw_app] at hP
    intro k q hk
    exact hP k q (by rw [List.getElem?_append_left (List.getElem?_eq_some_iff.mp hk).1]; exact hk)
  have hlt : ∀ i, i < w.length + 1 → ad i < H.size := fun i hi => by
    have hg : (xw D ad (w ++ [c0]))[i]? = some (ad i, xc D ad (w ++ [c0])[i]) := by
      rw [xw_get, List.getElem?_eq_getElem (by omega)]
      rfl
    exact (hP i _ hg).lt
  obtain ⟨hb, hPc⟩ := hPc ad
  have hM := hM l D (ad w.length) H.size (hlt w.length (by omega))
  refine x_callG (va_runI (y := y) (bytes := ycc) (maxL := ymL) (n := 0) (As := []) (rest := st.map (xv ad)) (b := ad w.length) ⟨h1, h2, h3, h5, h6⟩ hM (cwI 0 h6 (ws_GoodIn ?_) rfl rfl rfl (h6 _ (hz _ (by simp))) (h6 _ (hz _ (by simp))) (h6 _ (hz _ (by simp))) hin ⟨hd1, hd2, hd3⟩ ⟨?_, ?_⟩) ⟨hb _ _, fun U hU hW => hPc ad H locs rfl hP hap hS U hU hW⟩ rfl rfl (hl.1) rfl (lv_room (cat_sum8 hs4)) hd ⟨hrm.1, hrm.2⟩) (fun v st₀ t L1 e0 hf hq => ?_)
  · intro w hw
    rcases List.mem_cons.mp hw with rfl | hw
    · exact hz _ (by simp)
    · exact hw
  · show dy + 1 ≤ _; omega
  · show 8 + (ymL + 11) + 36 * dy ≤ _; omega
  · obtain ⟨e1, ⟨hz1, hkk⟩, ad1, ha1, hP1, hap1⟩ := hq
    cases e1
    rw [e0] at hz1 hkk
    have hAb : A (ad w.length) := hap.2 _ (by omega)
    have hA' : ∀ q, newA (ad w.length) H.size q → A q := fun q hq => by
      rcases hq with rfl | hq
      · exact hAb
      · exact h9 q (Nat.le_trans hS.1 hq)
    have hext : ∀ i, i < w.length ∨ 1000 ≤ i → (fun i => if i < w.length then ad i else if i < 1000 then ad1 (i - w.length) else ad i) i = ad i := fun i hi => by
      dsimp only
      by_cases c : i < w.length
      · rw [if_pos c]
      · rw [if_neg c, if_neg (by omega)]
    have hext2 : ∀ i, i < w1.length → (fun i => if i < w.length then ad i else if i < 1000 then ad1 (i - w.length) else ad i) (w.length + i) = ad1 i := fun i hi => by
      dsimp only
      rw [if_neg (by omega), if_pos (by omega), show w.length + i - w.length = i by omega]
    generalize (fun i => if i < w.length then ad i else if i < 1000 then ad1 (i - w.length) else ad i) = ad' at hext hext2
    have apart : ∀ i, i < w.length → ¬ newA (ad w.length) H.size (ad i) := fun i hi hq => by
      rcases hq with hq | hq
      · have := hap.1 i w.length (by omega) (by omega) hq
        omega
      · have := hlt i (by omega)
        omega
    have hP2 : va_P (D.1, D.2.1) classes (xw D ad' (w ++ sh w.length w1)) t.heap := by
      rw [xw_join (ad1 := fun i => ad' (w.length + i)) D hwk (fun i hi => hext i (Or.inl hi)) (fun _ => rfl), xw_ext (ad := ad1) (ad' := fun i => ad' (w.length + i)) D hext2 hw1k]
      refine va_P.app (fun k q hk => ?_) hP1
      have hk0 := hk
      rw [xw_get] at hk
      cases hw : w[k]? with
      | none => rw [hw] at hk; cases hk
      | some cc =>
        rw [hw] at hk
        cases hk
        have hi := (List.getElem?_eq_some_iff.mp hw).1
        exact (hPw k _ hk0).kept (hkk (ad k) (hlt k (by omega)) (apart k hi))
    have hl2 : (w ++ sh w.length w1).length = w.length + w1.length := by simp
    have hap2 : xap A ad' (w ++ sh w.length w1).length := by
      rw [hl2]
      refine ⟨fun i j hi hj hij => ?_, fun i hi => ?_⟩
      · by_cases ci : i < w.length
        · by_cases cj : j < w.length
          · rw [hext i (Or.inl ci), hext j (Or.inl cj)] at hij
            exact hap.1 i j (by omega) (by omega) hij
          · obtain ⟨j', rfl⟩ : ∃ j', j = w.length + j' := ⟨j - w.length, by omega⟩
            rw [hext i (Or.inl ci), hext2 j' (by omega)] at hij
            exact absurd (hij ▸ hap1.2 j' (by omega)) (apart i ci)
        · obtain ⟨i', rfl⟩ : ∃ i', i = w.length + i' := ⟨i - w.length, by omega⟩
          by_cases cj : j < w.length
          · rw [hext j (Or.inl cj), hext2 i' (by omega)] at hij
            exact absurd (hij ▸ hap1.2 i' (by omega)) (apart j cj)
          · obtain ⟨j', rfl⟩ : ∃ j', j = w.length + j' := ⟨j - w.length, by omega⟩
            rw [hext2 i' (by omega), hext2 j' (by omega)] at hij
            rw [hap1.1 i' j' (by omega) (by omega) hij]
      · by_cases ci : i < w.length
        · rw [hext i (Or.inl ci)]
          exact hap.2 i (by omega)
        · obtain ⟨i', rfl⟩ : ∃ i', i = w.length + i' := ⟨i - w.length, by omega⟩
          rw [hext2 i' (by omega)]
          exact hA' _ (hap1.2 i' (by omega))
    have hS2 : va_S A s.heap t.heap (locs ++ L1) := ⟨Nat.le_trans hS.1 hz1, fun q g1 g2 => by
      rw [hkk q (Nat.lt_of_lt_of_le g1 hS.1) (fun z => g2 (hA' q z))]
      exact hS.2.1 q g1 g2, fun q hq => by
        rcases List.mem_append.mp hq with g | g
        · exact hS.2.2 q g
        · exact hA' _ (hf q g)⟩
    have hl' : lv_has ls nL (lvp ad' 0 L) := by rw [lvp_extj hext L 0 hLr]; exact hl
    have hres := kk ad' t.heap (locs ++ L1) (fun i hi => (hext i (Or.inr hi)).trans (h0 i hi)) hP2 hap2 hS2 hL hn ls hl'
    have hst : st.map (xv ad') = st.map (xv ad) := List.map_congr_left (fun v hv => by
      rcases hsr v hv with g | g
      · exact xv_extj hext g
      · rw [g]
        show Value.ref (ad' w.length) = Value.ref (ad w.length)
        have := hext2 0 hw1
        rw [Nat.add_zero] at this
        rw [this, ha1])
    rw [hst] at hres
    exact hres
theorem ZFz_ad {z : Nat} (h : ZFz E z) (ad : Nat → Nat) : ZFz (setAd E ad) z := by
  obtain ⟨p, l, e, R, s, m, args, below, meth, c, Qc, Q, cs, A, nL, D, ad0⟩ := E
  exact h
theorem gj_mk (F : Fx E own cc maxL d) {ix ix2 ci N dy q : Nat} {C : String} {T : u_T} {fs : List Value} {y : MethodName} {ycc : ByteArray} {ymL : Nat} {k : Nat × Nat} {w1 : xW} (hM : ConI y ycc ymL dy k (.inr (.inl (ci, fs))) w1) (hq : w.length = q) (hwk : wok w) (hw1k : wok w1) (hw9 : q + w1.length ≤ 1000) (hw1 : 0 < w1.length) (hc : classes[ci]? = some (C, T, N)) (hfs : ∀ ad : Nat → Nat, fs.map (xv ad) = fs) (hc0 : cok 0 (.inr (.inl (ci, fs)))) (hdef : ∀ j, j < N → defaultValue (tyOf ci j) = vp_V fs j) (hw : wsHas [.classLink own ix C, .instantiable C N, .initialized C] = true) (hck : cokJ own ix2 y ycc ymL = true) (hdd : dy + 1 ≤ d)
    (hd1 : decode cc pc = .ok (.new ix, 3)) (hd2 : decode cc (pc + 3) = .ok (.dup, 1)) (hd3 : decode cc (pc + 3 + 1) = .ok (.invokespecial ix2, 3)) (hLr : rljL q L) (hsr : ∀ v ∈ st, rlj q v) (hs4 : st.length ≤ 3) (hrm1 : rmOf E (1, N) n) (hrm2 : rmOf E k (n.1 + 1, n.2 + N))
    (kk : Gj E (n.1 + 1 + k.1, n.2 + N + k.2) (pc + 3 + 1 + 3) L (.ref q :: st) (w ++ sh q w1)) : Gj E n pc L st w := by
  subst hq
  refine gj_new F hc hfs hdef hw hd1 hwk (by omega) hLr hsr hrm1 ?_
  refine gj_dup F hd2 ?_
  refine gj_run F hc0 hM (fun ad => PcOk_I (Fx_ad F ad) hc0) hck hdd hd3 hwk hw1k hw9 hLr (fun v hv => ?_) (by simp; omega) hw1 hrm2 kk
  rcases List.mem_cons.mp hv with rfl | g
  · exact Or.inr rfl
  · exact Or.inl (hsr v g)
theorem gj_mkF (F : Fx E own cc maxL d) (hZ : ZF E) {ix ix2 ci N dy q : Nat} {C : String} {T : u_T} {fs : List Value} {y : MethodName} {ycc : ByteArray} {ymL : Nat} {k : Nat × Nat} {w1 : xW} (hM : ConF y ycc ymL dy k (.inr (.inl (ci, fs))) w1) (hq : w.length = q) (hwk : wok w) (hw1k : wok w1) (hw9 : q + w1.length ≤ 1000) (hw1 : 0 < w1.length) (hc : classes[ci]? = some (C, T, N)) (hfs : ∀ ad : Nat → Nat, fs.map (xv ad) = fs) (hc0 : cok 0 (.inr (.inl (ci, fs)))) (hdef : ∀ j, j < N → defaultValue (tyOf ci j) = vp_V fs j) (hw : wsHas [.classLink own ix C, .instantiable C N, .initialized C] = true) (hck : cokJ own ix2 y ycc ymL = true) (hdd : dy + 1 ≤ d)
    (hd1 : decode cc pc = .ok (.new ix, 3)) (hd2 : decode cc (pc + 3) = .ok (.dup, 1)) (hd3 : decode cc (pc + 3 + 1) = .ok (.invokespecial ix2, 3)) (hLr : rljL q L) (hsr : ∀ v ∈ st, rlj q v) (hs4 : st.length ≤ 3) (hrm1 : rmOf E (1, N) n) (hrm2 : rmOf E k (n.1 + 1, n.2 + N))
    (kk : Gj E (n.1 + 1 + k.1, n.2 + N + k.2) (pc + 3 + 1 + 3) L (.ref q :: st) (w ++ sh q w1)) : Gj E n pc L st w := by
  subst hq
  obtain ⟨z, hz⟩ := hZ
  refine gj_new F hc hfs hdef hw hd1 hwk (by omega) hLr hsr hrm1 ?_
  refine gj_dup F hd2 ?_
  refine gj_run F hc0 (fun l D => hM l D z) (fun ad => PcOk_Fz (Fx_ad F ad) hc0 (ZFz_ad hz ad)) hck hdd hd3 hwk hw1k hw9 hLr (fun v hv => ?_) (by simp; omega) hw1 hrm2 kk
  rcases List.mem_cons.mp hv with rfl | g
  · exact Or.inr rfl
  · exact Or.inl (hsr v g)
theorem gj_gd {σ : Type} {toW : σ → xW} {S : σ} (hcs : csIs E n) (hpc : pc < 100000) (h : ∀ ad : Nat → Nat, (∀ i, 1000 ≤ i → ad i = ad0Of E i) → Gd (setAd E ad) toW pc L st S) : Gj E n pc L st (toW S) := by
  obtain ⟨p, l, e, R, s, m, args, below, meth, c, Qc, Q, cs, A, nL, D, ad0⟩ := E
  have hcs : cs = n := hcs
  subst hcs
  intro ad H locs h0 hP hap hS hL hn ls hl
  exact (h ad h0 H locs hP hap hS).2 (by omega) hL hn ls hl
end
theorem wok_fp0 : wok (fpW FP0) := by
  have h := Wr_app (k := 124) (m := 24) (Wr_app (k := 100) (m := 24) (Wr_app (k := 76) (m := 24) (Wr_app (k := 52) (m := 24) (Wr_app (k := 50) (m := 2) (Wr_one (k := 49) (c := px6 (fun _ => none)) (Wr_app (k := 25) (m := 24) (Wr_app (k := 1) (m := 24) Wr0 (wok_st S0) (st_len S0)) (wok_st S0) (st_len S0)) (fun j k h => by cases h)) (wok_o O0) rfl) (wok_st S0) (st_len S0)) (wok_st S0) (st_len S0)) (wok_st S0) (st_len S0)) (wok_st S0) (st_len S0)
  have h2 : Wr 148 (sh 1 (stW S0) ++ (sh 25 (stW S0) ++ (px6 (fun _ => none) :: (sh 50 (oW O0) ++ (sh 52 (stW S0) ++ (sh 76 (stW S0) ++ (sh 100 (stW S0) ++ sh 124 (stW S0)))))))) := by
    simpa only [List.nil_append, List.append_assoc, List.cons_append] using h
  rw [← List.append_assoc] at h2
  have h3 := Wr_mid (y := px6 perm0) h2 (fun j k hk => by
    have hk : (if j = 3 then some 124 else if j = 2 then some 100 else if j = 1 then some 76 else if j = 0 then some 52 else none) = some k := hk
    (repeat' split at hk) <;> cases hk <;> decide)
  rw [List.append_assoc] at h3
  exact Wr_wok (c := .inr (.inl (6, [.ref 1, .ref 25, .ref 49, .int 0, .ref 50]))) h3 (by simp [cok, rl])
theorem fp_len (F : FT) : (fpW F).length = 148 := fpW_len F
theorem lW0 : ([] ++ sh 0 (fpW FP0)) ++ sh 148 (fpW FP0) = lW (FP0, FP0) := by
  rw [List.nil_append]
  rfl
theorem dfl_X6 : ∀ j, j < 5 → defaultValue (tyOf 6 j) = vp_V [.null, .null, .null, .int 0, .null] j := fun j hj => by
    match j, hj with
    | 0, _ => rfl
    | 1, _ => rfl
    | 2, _ => rfl
    | 3, _ => rfl
    | 4, _ => rfl
    | n + 5, h => exact absurd h (by omega)
set_option maxHeartbeats 1000000 in
theorem law_walk {E : En} {N : Nat} {xs : Nat → Int32} (F : Fx E RL code 8 9) (Z : ∀ ad : Nat → Nat, (∀ i, 1000 ≤ i → ad i = ad0Of E i) → LZ N xs (setAd E ad)) (hZ : ZF E) (hcs : csIs E (296, 2564)) (Rm : ∀ k n : Nat × Nat, n.1 + k.1 ≤ 296 → n.2 + k.2 ≤ 2564 → rmOf E k n) (hN : N ≤ 260)
    (fin : ∀ (ad : Nat → Nat) (L : xL) (S : LT), L.length = 8 → Gd (setAd E ad) lW 435 L [.int 1] S) : Gj E (0, 0) 0 [some (.ref 1003), none, none, none, none, none, none, none] [] [] := by
  refine gj_mkF F hZ (C := RX6) (T := TX6) (N := 5) (q := 0) conf_X6 rfl (fun _ h => absurd h List.not_mem_nil) wok_fp0 (by rw [fp_len]; decide) (by rw [fp_len]; decide) rfl (fun _ => rfl) (by simp [cok, rl]) dfl_X6 (by decide +kernel) (by decide +kernel) (by decide) dL_law_0 dL_law_3 dL_law_4 (by simp [rljL, rlj]) (by simp) (by decide) (Rm _ _ (by decide) (by decide)) (Rm _ _ (by decide) (by decide)) ?_
  refine gj_astore F (i := 1) dL_law_7 rfl (by decide) ?_
  refine gj_mkF F hZ (C := RX6) (T := TX6) (N := 5) (q := 148) conf_X6 (by rw [List.nil_append, List.length_map, fp_len]) (wok_sh (fun _ h => absurd h List.not_mem_nil) wok_fp0) wok_fp0 (by rw [fp_len]; decide) (by rw [fp_len]; decide) rfl (fun _ => rfl) (by simp [cok, rl]) dfl_X6 (by decide +kernel) (by decide +kernel) (by decide) dL_law_8 dL_law_11 dL_law_12 (by simp [rljL, rlj, xst1, xkill]) (by simp) (by decide) (Rm _ _ (by decide) (by decide)) (Rm _ _ (by decide) (by decide)) ?_
  refine gj_astore F (i := 2) dL_law_15 rfl (by decide) ?_
  rw [lW0]
  refine gj_gd (toW := lW) hcs (by decide) (fun ad h => ?_)
  exact lw_go (okc_L_law (Fx_ad F ad) (Z ad h)) hN (fin ad)
theorem zsd_mk {D : xD} {f : Nat → Nat} {A : Nat → Prop} {s : State} {zl zm : Nat} (h0 : f 1000 = zl) (h1 : f 1001 = zm) (z1 : va_Z RX6 "LEAST_SETTINGS" "[I" (.ref zl) A s s.heap) (z2 : va_Z RX6 "MOST_SETTINGS" "[I" (.ref zm) A s s.heap) (z3 : ¬ A zl ∧ zl < s.heap.size ∧ va_X zl 19 leastS s s.heap) (z4 : ¬ A zm ∧ zm < s.heap.size ∧ va_X zm 19 mostS s s.heap) : ZSd D f A s := by
  subst h0
  subst h1
  exact ⟨z1, z2, z3, z4⟩
/-! what the statement gives of the start -/
theorem eq_int {args : Array Value} {s : State} {t : Term} {z : Int32} (h : (Cond.eq t (.int z)).before args s = true) : t.eval args s none [] s = some (.int z) := by
  cases hv : t.eval args s none [] s with
  | none => simp [Cond.before, Cond.holds, Cond.value, hv] at h
  | some w =>
    have hz : (Term.int z).eval args s none [] s = some (.int z) := rfl
    simp only [Cond.before, Cond.holds, Cond.value, hv, hz] at h
    cases w <;> simp_all
theorem arr_of {args : Array Value} {s : State} {t : Term} {N : Nat} {f : Nat → Int32} {cI : ClassId} (hcI : s.vm.findClass "[I" = some cI) (hN : N < 1000) (hex : (Cond.exactly t "[I").before args s = true) (hlen : (Cond.eq (.length t) (.int N.toInt32)).before args s = true) (hel : ∀ j, j < N → (Cond.eq (.elem t (.int (nI j))) (.int (f j))).before args s = true) : ∃ (z : Nat) (scr : Cell), t.eval args s none [] s = some (.ref z) ∧ s.heap[z]? = some scr ∧ scr.cls = cI ∧ (∀ k, scr.vm ≠ .statics k) ∧ scr.vm ≠ .unknown ∧ scr.slots = (vp_cell cI (N, .inl f)).slots := by
  obtain ⟨z, c, scr, k, e1, e2, e3, e4, e5, e6, -⟩ := Cond.exactly_spec (args := args) (first := s) (o := none) (s := s) (idx := []) (t := t) (cls := "[I") hex
  cases hcI.symm.trans e2
  obtain ⟨z', cell, g1, g2, g3⟩ := Term.length_spec (eq_int hlen)
  cases e1.symm.trans g1
  obtain ⟨q1, q2, q3, -⟩ := State.arrayAt?_spec g2
  cases e3.symm.trans q1
  refine ⟨z, scr, e1, e3, e6, fun k h => ?_, q2, ?_⟩
  · rw [h] at q3; cases q3
  have hat : ∀ j, j < N → scr.slots[j]? = some (.int (f j)) := fun j hj => by
    obtain ⟨a, i, cell, p1, p2, p3, -, p5⟩ := Term.elem_spec (eq_int (hel j hj))
    cases e1.symm.trans p1
    cases g2.symm.trans p3
    cases p2
    rw [nI_clamp (by omega)] at p5
    exact p5
  have hsz : scr.slots.size = N := by
    have hl := eq_int hlen
    simp only [Term.eval, Option.bind_eq_bind, e1, Option.bind_some, g2] at hl
    split at hl
    · rename_i hlt
      have hg : Int32.ofNat scr.slots.size = Int32.ofNat N := Value.int.inj (Option.some.inj hl)
      have l1 : scr.slots.size ≤ N := (Int32.ofNat_le_ofNat hlt (by omega)).mp (by rw [hg]; exact Int32.le_refl _)
      have l2 : N ≤ scr.slots.size := (Int32.ofNat_le_ofNat (by omega) hlt).mp (by rw [hg]; exact Int32.le_refl _)
      omega
    · cases hl
  apply Array.ext_getElem?
  intro j
  by_cases hj : j < N
  · rw [hat j hj]
    exact (arrV_read cI (fun j => .int (f j)) hj).symm
  · rw [Array.getElem?_eq_none (by omega)]
    exact (Array.getElem?_eq_none (by show (arrV cI N _).slots.size ≤ j; rw [arrV_size]; omega)).symm
theorem static_of {args : Array Value} {s : State} {D : xD} {nm : String} {f : Nat → Int32} (hcI : s.vm.findClass "[I" = some (D.2.2 0)) (hl : (Cond.laysStatic RX6 nm "[I").before args s = true) (hini : (Cond.initialized RX6).before args s = true) (hex : (Cond.exactly (.static RX6 nm "[I") "[I").before args s = true) (hlen : (Cond.eq (.length (.static RX6 nm "[I")) (.int (19 : Nat).toInt32)).before args s = true) (hel : ∀ j, j < 19 → (Cond.eq (.elem (.static RX6 nm "[I") (.int (nI j))) (.int (f j))).before args s = true) : ∃ z, va_Z RX6 nm "[I" (.ref z) (fun q => s.heap.size ≤ q) s s.heap ∧ ¬ s.heap.size ≤ z ∧ xSt D z 19 f s := by
  obtain ⟨z, scr, e1, e2, e3⟩ := arr_of (N := 19) hcI (by decide) hex hlen hel
  have hlt : z < s.heap.size := (Array.getElem?_eq_some_iff.mp e2).1
  exact ⟨z, va_Zref hl hini e1 (fun a ha h => Nat.lt_irrefl _ (Nat.lt_of_lt_of_le ha h)), Nat.not_le.mpr hlt, scr, e2, e3⟩
theorem law_known {args : Array Value} {s : State} (hts : ∀ w ∈ lw_tbl, w.before args s = true) : ∃ D : xD, xKn D s := by
  have hws : ∀ w ∈ WS, w.before args s = true := fun w hw => hts w (ws_tbl hw)
  obtain ⟨c0, i0, k0⟩ := u_known hws xcls0.1 (hts (.instantiable RX0 5) (by decide +kernel))
  obtain ⟨c1, i1, k1⟩ := u_known hws xcls1.1 (hts (.instantiable RX1 4) (by decide +kernel))
  obtain ⟨c2, i2, k2⟩ := u_known hws xcls2.1 (hts (.instantiable RX2 7) (by decide +kernel))
  obtain ⟨c3, i3, k3⟩ := u_known hws xcls3.1 (hts (.instantiable RX3 10) (by decide +kernel))
  obtain ⟨c4, i4, k4⟩ := u_known hws xcls4.1 (hts (.instantiable RX4 17) (by decide +kernel))
  obtain ⟨c5, i5, k5⟩ := u_known hws xcls5.1 (hts (.instantiable RX5 7) (by decide +kernel))
  obtain ⟨c6, i6, k6⟩ := u_known hws xcls6.1 (hts (.instantiable RX6 5) (by decide +kernel))
  obtain ⟨a0, q0, p0, f0, g0, r0⟩ := Cond.arrayClass_spec (hts (.arrayClass .int) (by decide +kernel))
  obtain ⟨a1, q1, p1, f1, g1, r1⟩ := Cond.arrayClass_spec (hts (.arrayClass .boolean) (by decide +kernel))
  obtain ⟨a2, q2, p2, f2, g2, r2⟩ := Cond.arrayClass_spec (hts (.arrayClass .char) (by decide +kernel))
  obtain ⟨p3, a3, q3, f3, -, g3, r3, h3⟩ := Cond.arrayOver_spec (hts (.arrayOver (.object RX4)) (by decide +kernel))
  refine ⟨(fun c => match c with | 0 => c0 | 1 => c1 | 2 => c2 | 3 => c3 | 4 => c4 | 5 => c5 | _ => c6, fun c => match c with | 0 => i0 | 1 => i1 | 2 => i2 | 3 => i3 | 4 => i4 | 5 => i5 | _ => i6, fun t => match t with | 0 => a0 | 1 => a1 | 2 => a2 | _ => a3), ⟨fun c q hq => ?_, fun k q hq => ?_⟩, fun q hq => ?_, ?_⟩
  · match c, hq with
    | 0, hq => cases hq; exact k0
    | 1, hq => cases hq; exact k1
    | 2, hq => cases hq; exact k2
    | 3, hq => cases hq; exact k3
    | 4, hq => cases hq; exact k4
    | 5, hq => cases hq; exact k5
    | 6, hq => cases hq; exact k6
    | n + 7, hq => simp [classes] at hq
  · match k, hq with
    | 0, hq => cases hq; exact ⟨fun N z => ⟨(fun k h => by cases h), q0, g0, p0, r0⟩, f0⟩
    | 1, hq => cases hq; exact ⟨fun N z => ⟨(fun k h => by cases h), q1, g1, p1, r1⟩, f1⟩
    | 2, hq => cases hq; exact ⟨fun N z => ⟨(fun k h => by cases h), q2, g2, p2, r2⟩, f2⟩
    | 3, hq => cases hq; exact ⟨fun N z => ⟨(fun k h => by cases h), q3, g3, p3, r3⟩, q3, p3, g3, r3, f3, h3⟩
    | n + 4, hq => simp [xty] at hq
  · simp only [xNestM, List.mem_cons, List.not_mem_nil, or_false] at hq
    rcases hq with rfl | rfl | rfl | rfl | rfl | rfl | rfl
    · exact va_tabs rfl rfl (hts _ (by decide +kernel))
    · exact va_tabs rfl rfl (hts _ (by decide +kernel))
    · exact va_tabs rfl rfl (hts _ (by decide +kernel))
    · exact va_tabs rfl rfl (hts _ (by decide +kernel))
    · exact va_tabs rfl rfl (hts _ (by decide +kernel))
    · exact va_tabs rfl rfl (hts _ (by decide +kernel))
    · exact va_tabs rfl rfl (hts _ (by decide +kernel))
  · exact va_tabs rfl rfl (hts (.fieldLinkNest RX4 9 RX6 "FIRST_SETTINGS" "[I" RX6) (by decide +kernel))
theorem whole_start {p : Program} {e : Env} {s : State} {m : MethodId} {below : List Frame} {meth : Method} {c : Code} (l : Launch) (hflags : l.flags = flags0) {b L : Nat} {xs : Nat → Int32} (hL : L ≤ 260) (C0 : lw_At p s m meth c b L xs) : W p l e room_1 s m #[Value.ref b] below meth c s.heap [] 0 0 (lw_Z below #[Value.ref b] s) (entryFrame m ([Value.ref b] : List Value).toArray 8) := by
  obtain ⟨hx, hcode, hret, hml, hown, hts, hX, hbl, hlk, hgv⟩ := C0
  have hws : ∀ w ∈ WS, w.before #[Value.ref b] s = true := fun w hw => hts w (ws_tbl hw)
  have hfl := flat_of_before _ hgv
  obtain ⟨D, hK⟩ := law_known hts
  have hcI : s.vm.findClass "[I" = some (D.2.2 0) := va_nm_int (hK.1.2 0 (D.2.2 0, .int) rfl).2
  have hini := hts (.initialized RX6) (by decide +kernel)
  obtain ⟨zf, f1, f2, f3⟩ := static_of (nm := "FIRST_SETTINGS") (f := firstS) hcI (hts _ (by decide +kernel)) hini (hfl _ (by decide +kernel)) (hfl _ (by decide +kernel)) (fun j hj => hfl _ ((by decide +kernel : ∀ j, j < 19 → (Cond.eq (.elem (.static RX6 "FIRST_SETTINGS" "[I") (.int (nI j))) (.int (firstS j))) ∈ flatC (Jvm.Cond.and given_1 narrow_1)) j hj))
  obtain ⟨zl, l1, l2, l3⟩ := static_of (nm := "LEAST_SETTINGS") (f := leastS) hcI (hts _ (by decide +kernel)) hini (hfl _ (by decide +kernel)) (hfl _ (by decide +kernel)) (fun j hj => hfl _ ((by decide +kernel : ∀ j, j < 19 → (Cond.eq (.elem (.static RX6 "LEAST_SETTINGS" "[I") (.int (nI j))) (.int (leastS j))) ∈ flatC (Jvm.Cond.and given_1 narrow_1)) j hj))
  obtain ⟨zm, m1, m2, m3⟩ := static_of (nm := "MOST_SETTINGS") (f := mostS) hcI (hts _ (by decide +kernel)) hini (hfl _ (by decide +kernel)) (hfl _ (by decide +kernel)) (fun j hj => hfl _ ((by decide +kernel : ∀ j, j < 19 → (Cond.eq (.elem (.static RX6 "MOST_SETTINGS" "[I") (.int (nI j))) (.int (mostS j))) ∈ flatC (Jvm.Cond.and given_1 narrow_1)) j hj))
  have hZF : ZFd D zf (fun q => s.heap.size ≤ q) s := ⟨f1, va_tabs rfl rfl (hts (.castable "[I" "java/lang/Cloneable") (by decide +kernel)), f2, f3, va_AO.of (hts (.arrayOver (.object RX4)) (by decide +kernel))⟩
  generalize hE : ((p, l, e, room_1, s, m, #[Value.ref b], below, meth, c, fun _ _ _ _ => True, lw_Z below #[Value.ref b] s, (296, 2564), fun q => s.heap.size ≤ q, 8, D, fun i => if i = 1003 then b else if i = 1000 ∨ i = 1148 then zl else if i = 1001 ∨ i = 1149 then zm else 0) : En) = E
  have a1 : ad0Of E 1000 = zl := by rw [← hE]; rfl
  have a2 : ad0Of E 1001 = zm := by rw [← hE]; rfl
  have a3 : ad0Of E 1003 = b := by rw [← hE]; rfl
  have a4 : ad0Of E 1148 = zl := by rw [← hE]; rfl
  have a5 : ad0Of E 1149 = zm := by rw [← hE]; rfl
  have F : Fx E RL code 8 9 := by
    rw [← hE]
    exact ⟨hx, hcode, hml, rfl, hown, hws, hlk, hK, fun _ h => h, by show 296 ≤ 600000; decide, by show 2564 ≤ 7302250; decide, by show 9 ≤ 9; decide, by show 36 * 9 ≤ 324; decide⟩
  have Z : ∀ ad : Nat → Nat, (∀ i, 1000 ≤ i → ad i = ad0Of E i) → LZ L xs (setAd E ad) := fun ad h => by
    have h0 : ad 1000 = zl := (h 1000 (by decide)).trans a1
    have h1 : ad 1001 = zm := (h 1001 (by decide)).trans a2
    have h2 : ad 1148 = zl := (h 1148 (by decide)).trans a4
    have h3 : ad 1149 = zm := (h 1149 (by decide)).trans a5
    have h4 : ad 1003 = b := (h 1003 (by decide)).trans a3
    rw [← hE]
    refine ⟨?_, ?_, ?_⟩
    · show ZSd D (fun i => ad (0 + i)) (fun q => s.heap.size ≤ q) s
      exact zsd_mk (f := fun i => ad (0 + i)) h0 h1 l1 m1 ⟨l2, l3.lt, l3.X hK⟩ ⟨m2, m3.lt, m3.X hK⟩
    · show ZSd D (fun i => ad (148 + i)) (fun q => s.heap.size ≤ q) s
      exact zsd_mk (f := fun i => ad (148 + i)) h2 h3 l1 m1 ⟨l2, l3.lt, l3.X hK⟩ ⟨m2, m3.lt, m3.X hK⟩
    · show ¬ s.heap.size ≤ ad 1003 ∧ ad 1003 < s.heap.size ∧ va_X (ad 1003) L xs s s.heap
      rw [h4]
      exact ⟨Nat.not_le.mpr hbl, hbl, hX⟩
  have hZ : ZF E := by
    rw [← hE]
    exact ⟨zf, hZF⟩
  have hcs : csIs E (296, 2564) := by rw [← hE]; rfl
  have Rm : ∀ k n : Nat × Nat, n.1 + k.1 ≤ 296 → n.2 + k.2 ≤ 2564 → rmOf E k n := fun k n h1 h2 => by
    rw [← hE]
    exact ⟨by show n.1 + k.1 ≤ 600000; omega, by show n.2 + k.2 ≤ 7302250; omega⟩
  have fin : ∀ (ad : Nat → Nat) (L : xL) (S : LT), L.length = 8 → Gd (setAd E ad) lW 435 L [.int 1] S := fun ad L S _ => by
    rw [← hE]
    refine fun H locs hP hap hS => ⟨fun h => absurd h (by decide), fun _ hL' hn ls hl => ?_⟩
    refine va_forget hS.2.2 ?_
    refine W.widen (k := 600000) (n := 7302250) (by decide) (by decide) ?_
    exact lw_ret hx hcode hret hlk dL_law_435
  have w0 := law_walk F Z hZ hcs Rm hL fin
  rw [← hE] at w0
  have hl := lv_entry ([.ref b] : List Value) (n := 8) (by simp [lg_sl, Value.category])
  rw [lg_entry_eq]
  exact w0 (fun i => if i = 1003 then b else if i = 1000 ∨ i = 1148 then zl else if i = 1001 ∨ i = 1149 then zm else 0) s.heap [] (fun _ _ => rfl) (fun k q h => by cases h) ⟨fun i j hi => absurd hi (Nat.not_lt_zero i), fun i hi => absurd hi (Nat.not_lt_zero i)⟩ va_S.rf rfl (show xno (xarg [.ref 1003] 8) from xno_args [.ref 1003] (by simp [xplain]) _) _ hl
