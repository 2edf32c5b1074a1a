/-! ===== constructors that call constructors ===== -/
theorem x_callG {p : Program} {l : Launch} {e : Jvm.Env} {R : Room} {s : State} {m : MethodId} {args : Array Value} {below : List Frame} {meth : Method} {c : Code} {H : Heap} {locs : List Loc} {cells slots mc ms : Nat} {Q : State → Prop} {pc : Nat} {ls : Array Slot} {st0 rest : List Value} {Qa : State → Outcome → State → Prop} {free : Addr → Prop} (hr : va_Run p l e R s m args below meth c H locs cells slots mc ms (F0 m pc ls st0) rest Qa free)
    (kk : ∀ (v : Option Value) (st₀ t : State) (L : List Loc), st₀.heap = H → (∀ q ∈ L, free q.base) → Qa st₀ (.returned v) t → W p l e R s m args below meth c t.heap (locs ++ L) (cells + mc) (slots + ms) Q (F0 m (pc + 3) ls (v.toList ++ rest))) : W p l e R s m args below meth c H locs cells slots Q (F0 m pc ls st0) := by
  intro T hT X
  obtain ⟨v, st₀, t, T', L, h0, X', hL, e1, e2, hq, st⟩ := hr T hT X
  obtain ⟨t2, a1, b1⟩ := kk v st₀ t L h0 hL hq T' e1 X'
  exact ⟨t2, st t2 a1, b1⟩
theorem xw_join {ad ad' ad1 : Nat → Nat} (D : xD) {w w1 : xW} (hw : wok w) (h1 : ∀ i, i < w.length → ad' i = ad i) (h2 : ∀ i, ad' (w.length + i) = ad1 i) : xw D ad' (w ++ sh w.length w1) = xw D ad w ++ xw D ad1 w1 := by
  rw [← xw_ext D h1 hw]
  apply List.ext_getElem?
  intro i
  rw [xw_get]
  by_cases hi : i < w.length
  · rw [List.getElem?_append_left hi, List.getElem?_append_left (by rw [xw_len]; exact hi), xw_get]
  · obtain ⟨j, rfl⟩ : ∃ j, i = w.length + j := ⟨i - w.length, by omega⟩
    rw [List.getElem?_append_right (by omega), List.getElem?_append_right (by rw [xw_len]; omega), xw_len, xw_get, List.getElem?_map, h2]
    rw [show w.length + j - w.length = j by omega]
    cases w1[j]? with
    | none => rfl
    | some c =>
      show some (ad1 j, xc D ad' (xcr (fun i => w.length + i) c)) = some (ad1 j, xc D ad1 c)
      rw [xc_rn, show (fun i => ad' (w.length + i)) = ad1 from funext h2]
theorem rl_up {n m : Nat} (h : n ≤ m) {v : Value} (hv : rl n v) : rl m v := by
  cases v <;> first | trivial | exact Nat.lt_of_lt_of_le hv h
theorem cok_up {n m : Nat} (h : n ≤ m) {c : xCell} (hc : cok n c) : cok m c := by
  match c, hc with
  | .inl _, _ => trivial
  | .inr (.inl (_, fs)), hc => exact fun v hv => rl_up h (hc v hv)
  | .inr (.inr (_, f)), hc => exact fun j k hk => Nat.lt_of_lt_of_le (hc j k hk) h
theorem wok_app {w : xW} (h : wok w) {c : xCell} (hc : cok 0 c) : wok (w ++ [c]) := by
  intro x hx
  rcases List.mem_append.mp hx with g | g
  · exact cok_up (by simp) (h x g)
  · rw [List.mem_singleton.mp g]
    exact cok_up (Nat.zero_le _) hc
theorem cok_xcr {n b : Nat} {c : xCell} (hc : cok n c) : cok (b + n) (xcr (fun i => b + i) c) := by
  match c, hc with
  | .inl _, _ => trivial
  | .inr (.inl (_, fs)), hc =>
    intro v hv
    obtain ⟨u, hu, rfl⟩ := List.mem_map.mp hv
    have := hc u hu
    cases u <;> first | trivial | exact Nat.add_lt_add_left this b
  | .inr (.inr (_, f)), hc =>
    intro j k hk
    change (f j).map (fun i => b + i) = some k at hk
    cases q : f j with
    | none => rw [q] at hk; cases hk
    | some i =>
      rw [q] at hk
      cases hk
      exact Nat.add_lt_add_left (hc j i q) b
theorem wok_sh {w w1 : xW} (h : wok w) (h1 : wok w1) : wok (w ++ sh w.length w1) := by
  intro x hx
  rcases List.mem_append.mp hx with g | g
  · exact cok_up (by simp) (h x g)
  · obtain ⟨c, hc, rfl⟩ := List.mem_map.mp g
    have := cok_xcr (b := w.length) (h1 c hc)
    refine cok_up ?_ this
    simp
theorem wok_set {w : xW} (h : wok w) (k : Nat) {c : xCell} (hc : cok w.length c) : wok (w.set k c) := by
  intro x hx
  rw [List.length_set]
  rcases List.mem_or_eq_of_mem_set hx with g | g
  · exact h x g
  · rw [g]; exact hc
/-- a callee's condition, at a new cell c0 at the place b -/
def PcOk (E : En) (Pc : xD → Nat → Nat → Array Value → State → Prop) (w : xW) (b : Nat) : Prop := match E with
  | (p, l, e, R, s, m, args, below, meth, c, Qc, Q, cs, A, nL, D, ad0) => (∀ a sz, FrameBlind (Pc D a sz)) ∧ ∀ (ad : Nat → Nat) (H : Heap) (locs : List Loc), ad 0 = ad0 0 → va_P (D.1, D.2.1) classes (xw D ad w) H → xap A ad w.length → va_S A s.heap H locs → ∀ U : State, U.heap = H → s.WarmedH U.vm → Pc D (ad b) H.size #[.ref (ad b)] U
def rmOf (E : En) (k n : Nat × Nat) : Prop := match E with
  | (p, l, e, R, s, m, args, below, meth, c, Qc, Q, cs, A, nL, D, ad0) => n.1 + k.1 ≤ R.cells ∧ n.2 + k.2 ≤ R.slots
def cokI (own : String) (ix : Nat) (host : String) (y : MethodName) (cc : ByteArray) (maxL : Nat) : Bool :=
  wsHas [.instanceMethod y, .initialized y.cls, .code y cc maxL none] && decide ((own, ix, y, host) ∈ xNestM ∧ y.name = "<init>" ∧ y.cls ≠ "java/lang/invoke/MethodHandle" ∧ y.cls ≠ "java/lang/invoke/VarHandle" ∧ (parseMethodDescriptor y.desc).map (fun d => d.parameters.length) = some 0 ∧ maxL ≤ 17)
/-- the word of rows of stations, which no word list carries -/
def AOE (E : En) : Prop := match E with
  | (p, l, e, R, s, m, args, below, meth, c, Qc, Q, cs, A, nL, D, ad0) => va_AO RX4 s
section
variable {E : En} {own : String} {cc : ByteArray} {maxL d pc : Nat} {n : Nat × Nat} {L : xL} {st : List Value} {w : xW}
set_option maxHeartbeats 1000000 in
theorem gi_run (F : Fx E own cc maxL d) {ix : Nat} {host : String} {y : MethodName} {ycc : ByteArray} {ymL dy : Nat} {k : Nat × Nat} {c0 : xCell} {w1 : xW} {Pc : xD → Nat → Nat → Array Value → State → Prop} (hc0 : cok 0 c0)
    (hM : ∀ (l : Launch) (D : xD) (a sz : Nat), a < sz → Met l y (.code y ycc ymL none :: WS) { frames := dy, cells := k.1, slots := k.2, locals := 36 * dy } (Pc D a sz) (fun _ st oc t => oc = .returned none ∧ va_F (newA a sz) st t ∧ ∃ ad : Nat → Nat, ad 0 = a ∧ va_P (D.1, D.2.1) classes (xw D ad w1) t.heap ∧ xap (newA a sz) ad w1.length) k.1 k.2 (newA a sz))
    (hPc : PcOk E Pc (w ++ [c0]) w.length) (hck : cokI own ix host y ycc ymL = true) (hdd : dy + 1 ≤ d) (hd : decode cc pc = .ok (.invokespecial ix, 3)) (hwk : wok w) (hw0 : 0 < w.length) (hLr : rlL w.length L) (hsr : ∀ v ∈ st, rl w.length v ∨ v = .ref w.length) (hs4 : st.length ≤ 4) (hw1 : 0 < w1.length) (hrm : rmOf E k n)
    (kk : Gi E (n.1 + k.1, n.2 + k.2) (pc + 3) L st (w ++ sh w.length w1)) : Gi E n pc L (.ref w.length :: st) (w ++ [c0]) := by
  obtain ⟨p, l, e, R, s, m, args, below, meth, c, Qc, Q, cs, A, nL, D, ad0⟩ := E
  obtain ⟨h1, h2, h3, h4, h5, h6, h7, h8, h9, h10, h11, h12, h13⟩ := id F
  simp only [cokI, Bool.and_eq_true, decide_eq_true_eq] at hck
  obtain ⟨hws, hnm, hin, hd1, hd2, hd3, hd4⟩ := hck
  have hz := fun w (hh : w ∈ _) => wsHas_mem hws hh
  intro ad H locs h0 hP hap hS hL hn ls hl
  have hlen : (w ++ [c0]).length = w.length + 1 := by simp
  have hPw : va_P (D.1, D.2.1) classes (xw D ad w) H := by
    rw [xw_app] at hP
    intro k q hk
    exact hP k q (by rw [List.getElem?_append_left (List.getElem?_eq_some_iff.mp hk).1]; exact hk)
  have hlt : ∀ i, i < w.length + 1 → ad i < H.size := fun i hi => by
    have hg : (xw D ad (w ++ [c0]))[i]? = some (ad i, xc D ad (w ++ [c0])[i]) := by
      rw [xw_get, List.getElem?_eq_getElem (by omega)]
      rfl
    exact (hP i _ hg).lt
  obtain ⟨hb, hPc⟩ := hPc
  have hM := hM l D (ad w.length) H.size (hlt w.length (by omega))
  refine x_callG (va_runIN (y := y) (host := host) (bytes := ycc) (maxL := ymL) (n := 0) (As := []) (rest := st.map (xv ad)) (b := ad w.length) ⟨h1, h2, h3, h5, h6⟩ hM ⟨va_cnB 0 h6 (ws_GoodIn ?_) rfl rfl rfl (h8.2.1 _ hnm) (h6 _ (hz _ (by simp))) ⟨hd1, hd2, hd3⟩ ⟨?_, ?_⟩, hin, h6 _ (hz _ (by simp))⟩ ⟨hb _ _, fun U hU hW => hPc ad H locs h0 hP hap hS U hU hW⟩ rfl rfl (hl.1) rfl (lv_room (cat_sum8 hs4)) hd ⟨hrm.1, hrm.2⟩) (fun v st₀ t L1 e0 hf hq => ?_)
  · intro w hw
    rcases List.mem_cons.mp hw with rfl | hw
    · exact hz _ (by simp)
    · exact hw
  · show dy + 1 ≤ _; omega
  · show 8 + (ymL + 11) + 36 * dy ≤ _; omega
  · obtain ⟨e1, ⟨hz1, hkk⟩, ad1, ha1, hP1, hap1⟩ := hq
    cases e1
    rw [e0] at hz1 hkk
    have hAb : A (ad w.length) := hap.2 _ (by omega)
    have hA' : ∀ q, newA (ad w.length) H.size q → A q := fun q hq => by
      rcases hq with rfl | hq
      · exact hAb
      · exact h9 q (Nat.le_trans hS.1 hq)
    have hext : ∀ i, i < w.length → (fun i => if i < w.length then ad i else ad1 (i - w.length)) i = ad i := fun i hi => if_pos hi
    have hext2 : ∀ i, (fun i => if i < w.length then ad i else ad1 (i - w.length)) (w.length + i) = ad1 i := fun i => by
      show (if w.length + i < w.length then _ else _) = _
      rw [if_neg (by omega), show w.length + i - w.length = i by omega]
    generalize (fun i => if i < w.length then ad i else ad1 (i - w.length)) = ad' at hext hext2
    have apart : ∀ i, i < w.length → ¬ newA (ad w.length) H.size (ad i) := fun i hi hq => by
      rcases hq with hq | hq
      · have := hap.1 i w.length (by omega) (by omega) hq
        omega
      · have := hlt i (by omega)
        omega
    have hP2 : va_P (D.1, D.2.1) classes (xw D ad' (w ++ sh w.length w1)) t.heap := by
      rw [xw_join D hwk hext hext2]
      refine va_P.app (fun k q hk => ?_) hP1
      have hk0 := hk
      rw [xw_get] at hk
      cases hw : w[k]? with
      | none => rw [hw] at hk; cases hk
      | some cc =>
        rw [hw] at hk
        cases hk
        have hi := (List.getElem?_eq_some_iff.mp hw).1
        exact (hPw k _ hk0).kept (hkk (ad k) (hlt k (by omega)) (apart k hi))
    have hl2 : (w ++ sh w.length w1).length = w.length + w1.length := by simp
    have hap2 : xap A ad' (w ++ sh w.length w1).length := by
      rw [hl2]
      refine ⟨fun i j hi hj hij => ?_, fun i hi => ?_⟩
      · by_cases ci : i < w.length
        · by_cases cj : j < w.length
          · rw [hext i ci, hext j cj] at hij
            exact hap.1 i j (by omega) (by omega) hij
          · obtain ⟨j', rfl⟩ : ∃ j', j = w.length + j' := ⟨j - w.length, by omega⟩
            rw [hext i ci, hext2] at hij
            exact absurd (hij ▸ hap1.2 j' (by omega)) (apart i ci)
        · obtain ⟨i', rfl⟩ : ∃ i', i = w.length + i' := ⟨i - w.length, by omega⟩
          by_cases cj : j < w.length
          · rw [hext j cj, hext2] at hij
            exact absurd (hij ▸ hap1.2 i' (by omega)) (apart j cj)
          · obtain ⟨j', rfl⟩ : ∃ j', j = w.length + j' := ⟨j - w.length, by omega⟩
            rw [hext2, hext2] at hij
            rw [hap1.1 i' j' (by omega) (by omega) hij]
      · by_cases ci : i < w.length
        · rw [hext i ci]
          exact hap.2 i (by omega)
        · obtain ⟨i', rfl⟩ : ∃ i', i = w.length + i' := ⟨i - w.length, by omega⟩
          rw [hext2]
          exact hA' _ (hap1.2 i' (by omega))
    have hS2 : va_S A s.heap t.heap (locs ++ L1) := ⟨Nat.le_trans hS.1 hz1, fun q g1 g2 => by
      rw [hkk q (Nat.lt_of_lt_of_le g1 hS.1) (fun z => g2 (hA' q z))]
      exact hS.2.1 q g1 g2, fun q hq => by
        rcases List.mem_append.mp hq with g | g
        · exact hS.2.2 q g
        · exact hA' _ (hf q g)⟩
    have hl' : lv_has ls nL (lvp ad' 0 L) := by rw [lvp_ext hext L 0 hLr]; exact hl
    have hres := kk ad' t.heap (locs ++ L1) ((hext 0 hw0).trans h0) hP2 hap2 hS2 hL hn ls hl'
    have hst : st.map (xv ad') = st.map (xv ad) := List.map_congr_left (fun v hv => by
      rcases hsr v hv with g | g
      · exact xv_ext hext g
      · rw [g]
        show Value.ref (ad' w.length) = Value.ref (ad w.length)
        have := hext2 0
        rw [Nat.add_zero] at this
        rw [this, ha1])
    rw [hst] at hres
    exact hres
theorem gi_dup (F : Fx E own cc maxL d) {j : Nat} (hd : decode cc pc = .ok (.dup, 1)) (kk : Gi E n (pc + 1) L (.ref j :: .ref j :: st) w) : Gi E n pc L (.ref j :: st) w := by
  obtain ⟨p, l, e, R, s, m, args, below, meth, c, Qc, Q, cs, A, nL, D, ad0⟩ := E
  intro ad H locs h0 hP hap hS hL hn ls hl
  exact lv_dup F.1 F.2.1 hd rfl (kk ad H locs h0 hP hap hS hL hn ls hl)
theorem gi_new (F : Fx E own cc maxL d) {ix ci N : Nat} {C : String} {T : u_T} {fs : List Value} (hc : classes[ci]? = some (C, T, N)) (hfs : ∀ ad : Nat → Nat, fs.map (xv ad) = fs) (hdef : ∀ j, j < N → defaultValue (tyOf ci j) = vp_V fs j) (hw : wsHas [.classLink own ix C, .instantiable C N, .initialized C] = true) (hd : decode cc pc = .ok (.new ix, 3)) (hwk : wok w) (hw0 : 0 < w.length) (hLr : rlL w.length L) (hsr : ∀ v ∈ st, rl w.length v) (hrm : rmOf E (1, N) n) (kk : Gi E (n.1 + 1, n.2 + N) (pc + 3) L (.ref w.length :: st) (w ++ [.inr (.inl (ci, fs))])) : Gi E n pc L st w := by
  obtain ⟨p, l, e, R, s, m, args, below, meth, c, Qc, Q, cs, A, nL, D, ad0⟩ := E
  obtain ⟨h1, h2, h3, h4, h5, h6, h7, h8, h9, h10⟩ := id F
  obtain ⟨c1, c2, c3⟩ := xcls hc
  have hz := fun w (hh : w ∈ _) => wsHas_mem hw hh
  intro ad H locs h0 hP hap hS hL hn ls hl
  refine va_new (D := (D.1, D.2.1)) (C := C) (T := T) (N := N) (ci := ci) (fs := fs) h1 h2 h6 c1 (tyOf ci) c2 h5 (h6 _ (hz _ (by simp))) (h6 _ (hz _ (by simp))) (h6 _ (hz _ (by simp))) h8.1 hP (xap_D D hap) hS h9 hc hdef hrm.1 hrm.2 hd (fun q H1 hP1 hD1 hS1 => ?_)
  have hext : ∀ i, i < w.length → (fun i => if i = w.length then q else ad i) i = ad i := fun i hi => if_neg (by omega)
  have hq : (fun i => if i = w.length then q else ad i) w.length = q := if_pos rfl
  generalize (fun i => if i = w.length then q else ad i) = ad' at hext hq
  have hw' : xw D ad' (w ++ [.inr (.inl (ci, fs))]) = xw D ad w ++ [(q, .inr (ci, fs))] := by
    rw [xw_app, xw_ext D hext hwk, hq]
    show _ ++ [(q, Sum.inr (ci, fs.map (xv ad')))] = _
    rw [hfs]
  have hl' : lv_has ls nL (lvp ad' 0 L) := by rw [lvp_ext hext L 0 hLr]; exact hl
  have hap' : xap A ad' (w ++ [(.inr (.inl (ci, fs)) : xCell)]).length := by
    rw [← hw'] at hD1
    have gg : ∀ i, i < (w ++ [(.inr (.inl (ci, fs)) : xCell)]).length → ∃ c, (xw D ad' (w ++ [.inr (.inl (ci, fs))]))[i]? = some (ad' i, c) := fun i hi => by
      rw [xw_get, List.getElem?_eq_getElem hi]
      exact ⟨_, rfl⟩
    refine ⟨fun i j hi hj hij => ?_, fun i hi => ?_⟩
    · obtain ⟨c1, g1⟩ := gg i hi
      obtain ⟨c2, g2⟩ := gg j hj
      exact hD1.1 i j _ _ g1 g2 hij
    · obtain ⟨c1, g1⟩ := gg i hi
      exact hD1.2 i _ g1
  have hres := kk ad' H1 locs ((hext 0 hw0).trans h0) (by rw [hw']; exact hP1) hap' hS1 hL hn ls hl'
  rw [List.map_cons, st_ext hext hsr] at hres
  have e1 : xv ad' (.ref w.length) = .ref q := congrArg Value.ref hq
  rw [e1] at hres
  exact hres
theorem gi_newq (F : Fx E own cc maxL d) (hAO : AOE E) {ix N : Nat} {k : Int32} (hk : ¬ k < 0) (hN : k.toNatClampNeg = N) (hN2 : N ≤ 1000) (hw : wsHas [.classLink own ix RX4] = true) (hd : decode cc pc = .ok (.anewarray ix, 3)) (hwk : wok w) (hw0 : 0 < w.length) (hLr : rlL w.length L) (hsr : ∀ v ∈ st, rl w.length v) (hrm : rmOf E (1, N) n) (kk : Gi E (n.1 + 1, n.2 + N) (pc + 3) L (.ref w.length :: st) (w ++ [.inr (.inr (N, fun _ => none))])) : Gi E n pc L (.int k :: st) w := by
  obtain ⟨p, l, e, R, s, m, args, below, meth, c, Qc, Q, cs, A, nL, D, ad0⟩ := E
  obtain ⟨h1, h2, h3, h4, h5, h6, h7, h8, h9, h10⟩ := id F
  have hz := fun w (hh : w ∈ _) => wsHas_mem hw hh
  intro ad H locs h0 hP hap hS hL hn ls hl
  refine va_newq (D := (D.1, D.2.1)) (C := RX4) h1 h2 h5 (h6 _ (hz _ (by simp))) hAO h8.1 hP (xap_D D hap) hS h9 hk hN (by omega) hrm.1 hrm.2 hd (fun q cA H1 hK1 hP1 hD1 hS1 => ?_)
  have hcA : cA = D.2.2 3 := by
    have a1 := (hK1.2 (xty D).length (cA, .object RX4) (by simp)).2
    have a2 := (h8.1.2 3 (D.2.2 3, tagTy 3) (xty_get D (by omega))).2
    obtain ⟨_, _, _, _, _, g1⟩ := a1
    obtain ⟨_, _, _, _, _, g2⟩ := a2
    exact Option.some.inj (g1.symm.trans g2)
  subst hcA
  have hext : ∀ i, i < w.length → (fun i => if i = w.length then q else ad i) i = ad i := fun i hi => if_neg (by omega)
  have hq : (fun i => if i = w.length then q else ad i) w.length = q := if_pos rfl
  generalize (fun i => if i = w.length then q else ad i) = ad' at hext hq
  have hw' : xw D ad' (w ++ [.inr (.inr (N, fun _ => none))]) = xw D ad w ++ [(q, .inl (D.2.2 3, N, .inr (.inr (.inr (.inr (fun _ => none))))))] := by
    rw [xw_app, xw_ext D hext hwk, hq]
    rfl
  have hl' : lv_has ls nL (lvp ad' 0 L) := by rw [lvp_ext hext L 0 hLr]; exact hl
  have hap' : xap A ad' (w ++ [(.inr (.inr (N, fun _ => none)) : xCell)]).length := by
    rw [← hw'] at hD1
    have gg : ∀ i, i < (w ++ [(.inr (.inr (N, fun _ => none)) : xCell)]).length → ∃ c, (xw D ad' (w ++ [.inr (.inr (N, fun _ => none))]))[i]? = some (ad' i, c) := fun i hi => by
      rw [xw_get, List.getElem?_eq_getElem hi]
      exact ⟨_, rfl⟩
    refine ⟨fun i j hi hj hij => ?_, fun i hi => ?_⟩
    · obtain ⟨c1, g1⟩ := gg i hi
      obtain ⟨c2, g2⟩ := gg j hj
      exact hD1.1 i j _ _ g1 g2 hij
    · obtain ⟨c1, g1⟩ := gg i hi
      exact hD1.2 i _ g1
  have hres := kk ad' H1 locs ((hext 0 hw0).trans h0) (by rw [hw']; exact hP1) hap' hS1 hL hn ls hl'
  rw [List.map_cons, st_ext hext hsr] at hres
  have e1 : xv ad' (.ref w.length) = .ref q := congrArg Value.ref hq
  rw [e1] at hres
  exact hres
end
