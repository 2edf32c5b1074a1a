/-! ===== the station's constructor and the class's ===== -/
def Wr (k : Nat) (r : xW) : Prop := r.length + 1 = k ∧ ∀ x ∈ r, cok k x
theorem Wr0 : Wr 1 [] := ⟨rfl, fun _ h => absurd h List.not_mem_nil⟩
theorem Wr_app {k m : Nat} {r w1 : xW} (h : Wr k r) (h1 : wok w1) (hm : w1.length = m) : Wr (k + m) (r ++ sh k w1) := by
  obtain ⟨h2, h3⟩ := h
  refine ⟨by simp; omega, fun x hx => ?_⟩
  rcases List.mem_append.mp hx with g | g
  · exact cok_up (by omega) (h3 x g)
  · obtain ⟨c, hc, rfl⟩ := List.mem_map.mp g
    have := cok_xcr (b := k) (h1 c hc)
    rw [hm] at this
    exact this
theorem Wr_one {k : Nat} {r : xW} {c : xCell} (h : Wr k r) (hc : cok 0 c) : Wr (k + 1) (r ++ [c]) := by
  obtain ⟨h2, h3⟩ := h
  refine ⟨by simp; omega, fun x hx => ?_⟩
  rcases List.mem_append.mp hx with g | g
  · exact cok_up (by omega) (h3 x g)
  · rw [List.mem_singleton.mp g]
    exact cok_up (Nat.zero_le _) hc
theorem Wr_wok {k : Nat} {r : xW} {c : xCell} (h : Wr k r) (hc : cok k c) : wok (c :: r) := by
  intro x hx
  rw [List.length_cons, h.1]
  rcases List.mem_cons.mp hx with rfl | g
  · exact hc
  · exact h.2 x g
theorem Wr_mid {k : Nat} {u t : xW} {x y : xCell} (h : Wr k (u ++ x :: t)) (hy : cok k y) : Wr k (u ++ y :: t) := by
  obtain ⟨h2, h3⟩ := h
  refine ⟨by simp at h2 ⊢; exact h2, fun z hz => ?_⟩
  rcases List.mem_append.mp hz with g | g
  · exact h3 z (List.mem_append.mpr (Or.inl g))
  · rcases List.mem_cons.mp g with rfl | g
    · exact hy
    · exact h3 z (List.mem_append.mpr (Or.inr (List.mem_cons_of_mem _ g)))
theorem wok_e (S : ET) : wok (eW S) := by simp [wok, eW, cok, rl]
theorem wok_n (S : NT) : wok (nW S) := by simp [wok, nW, cok, rl]
theorem wok_o (S : OT) : wok (oW S) := by simp [wok, oW, cok, rl]
theorem wok_p (S : PT) : wok (pW S) := by simp [wok, pW, cok, rl]
theorem wok_z (S : ZT) : wok (zW S) := by simp [wok, zW, cok, rl]
theorem st_r (S : ST) : (((([] ++ [(.inl (0, 19, S.settings) : xCell)]) ++ sh 2 (pW S.P)) ++ sh 11 (zW S.Z)) ++ sh 17 (nW S.N)) ++ sh 19 (eW S.E) = .inl (0, 19, S.settings) :: (sh 2 (pW S.P) ++ (sh 11 (zW S.Z) ++ (sh 17 (nW S.N) ++ sh 19 (eW S.E)))) := by
  simp only [List.nil_append, List.cons_append, List.append_assoc]
theorem Wr_st (S : ST) : Wr 24 (.inl (0, 19, S.settings) :: (sh 2 (pW S.P) ++ (sh 11 (zW S.Z) ++ (sh 17 (nW S.N) ++ sh 19 (eW S.E))))) := by
  rw [← st_r]
  exact Wr_app (k := 19) (m := 5) (Wr_app (k := 17) (m := 2) (Wr_app (k := 11) (m := 6) (Wr_app (k := 2) (m := 9) (Wr_one (k := 1) Wr0 trivial) (wok_p _) rfl) (wok_z _) rfl) (wok_n _) rfl) (wok_e _) rfl
theorem wok_st (S : ST) : wok (stW S) := Wr_wok (Wr_st S) (by simp [cok, rl])
theorem st_len (S : ST) : (stW S).length = 24 := (Wr_st S).1
section
variable {E : En} {own : String} {cc : ByteArray} {maxL d pc : Nat} {n : Nat × Nat} {L : xL} {st : List Value} {c : xCell} {r : xW} {q : Nat}
theorem gi_mk (F : Fx E own cc maxL d) {ix ix2 ci N dy : Nat} {C host : String} {T : u_T} {fs : List Value} {y : MethodName} {ycc : ByteArray} {ymL : Nat} {k : Nat × Nat} {w1 : xW} (hM : ConI y ycc ymL dy k (.inr (.inl (ci, fs))) w1) (hr : Wr q r) (hcc : cok q c) (hc : classes[ci]? = some (C, T, N)) (hfs : ∀ ad : Nat → Nat, fs.map (xv ad) = fs) (hc0 : cok 0 (.inr (.inl (ci, fs)))) (hdef : ∀ j, j < N → defaultValue (tyOf ci j) = vp_V fs j) (hw : wsHas [.classLink own ix C, .instantiable C N, .initialized C] = true) (hck : cokI own ix2 host y ycc ymL = true) (hdd : dy + 1 ≤ d)
    (hd1 : decode cc pc = .ok (.new ix, 3)) (hd2 : decode cc (pc + 3) = .ok (.dup, 1)) (hd3 : decode cc (pc + 3 + 1) = .ok (.invokespecial ix2, 3)) (hLr : rlL q L) (hsr : ∀ v ∈ st, rl q v) (hs4 : st.length ≤ 3) (hw1 : 0 < w1.length) (hrm1 : rmOf E (1, N) n) (hrm2 : rmOf E k (n.1 + 1, n.2 + N))
    (kk : Gi E (n.1 + 1 + k.1, n.2 + N + k.2) (pc + 3 + 1 + 3) L (.ref q :: st) (c :: (r ++ sh q w1))) : Gi E n pc L st (c :: r) := by
  have hq : (c :: r).length = q := hr.1
  have hwk := Wr_wok hr hcc
  subst hq
  refine gi_new F hc hfs hdef hw hd1 hwk (by simp) hLr hsr hrm1 ?_
  refine gi_dup F hd2 ?_
  refine gi_call F hM hc0 hck hdd hd3 hwk (by simp) hLr (fun v hv => ?_) (by simp; omega) hw1 hrm2 ?_
  · rcases List.mem_cons.mp hv with rfl | g
    · exact Or.inr rfl
    · exact Or.inl (hsr v g)
  · exact kk
theorem gi_mkF (F : Fx E own cc maxL d) (hZ : ZF E) {ix ix2 ci N dy : Nat} {C host : String} {T : u_T} {fs : List Value} {y : MethodName} {ycc : ByteArray} {ymL : Nat} {k : Nat × Nat} {w1 : xW} (hM : ConF y ycc ymL dy k (.inr (.inl (ci, fs))) w1) (hr : Wr q r) (hcc : cok q c) (hc : classes[ci]? = some (C, T, N)) (hfs : ∀ ad : Nat → Nat, fs.map (xv ad) = fs) (hc0 : cok 0 (.inr (.inl (ci, fs)))) (hdef : ∀ j, j < N → defaultValue (tyOf ci j) = vp_V fs j) (hw : wsHas [.classLink own ix C, .instantiable C N, .initialized C] = true) (hck : cokI own ix2 host y ycc ymL = true) (hdd : dy + 1 ≤ d)
    (hd1 : decode cc pc = .ok (.new ix, 3)) (hd2 : decode cc (pc + 3) = .ok (.dup, 1)) (hd3 : decode cc (pc + 3 + 1) = .ok (.invokespecial ix2, 3)) (hLr : rlL q L) (hsr : ∀ v ∈ st, rl q v) (hs4 : st.length ≤ 3) (hw1 : 0 < w1.length) (hrm1 : rmOf E (1, N) n) (hrm2 : rmOf E k (n.1 + 1, n.2 + N))
    (kk : Gi E (n.1 + 1 + k.1, n.2 + N + k.2) (pc + 3 + 1 + 3) L (.ref q :: st) (c :: (r ++ sh q w1))) : Gi E n pc L st (c :: r) := by
  have hq : (c :: r).length = q := hr.1
  have hwk := Wr_wok hr hcc
  subst hq
  refine gi_new F hc hfs hdef hw hd1 hwk (by simp) hLr hsr hrm1 ?_
  refine gi_dup F hd2 ?_
  refine gi_callF F hZ hM hc0 hck hdd hd3 hwk (by simp) hLr (fun v hv => ?_) (by simp; omega) hw1 hrm2 ?_
  · rcases List.mem_cons.mp hv with rfl | g
    · exact Or.inr rfl
    · exact Or.inl (hsr v g)
  · exact kk
theorem gi_first0 (F : Fx E RX4 cc maxL d) (hZ : ZF E) (h1d : 1 ≤ d) (hw : wsHas [.methodLink RX4 13 ⟨"[I", "clone", "()Ljava/lang/Object;"⟩, .sameMethod "[I" "java/lang/Object" "clone" "()Ljava/lang/Object;", .native ⟨"java/lang/Object", "clone", "()Ljava/lang/Object;"⟩, .instanceMethod ⟨"java/lang/Object", "clone", "()Ljava/lang/Object;"⟩, .selects "[I" ⟨"[I", "clone", "()Ljava/lang/Object;"⟩ ⟨"java/lang/Object", "clone", "()Ljava/lang/Object;"⟩, .classLink RX4 14 "[I"] = true) (hd1 : decode cc pc = .ok (.getstatic 9, 3)) (hd2 : decode cc (pc + 3) = .ok (.invokevirtual 13, 3)) (hd3 : decode cc (pc + 3 + 3) = .ok (.checkcast 14, 3)) (hr : Wr q r) (hcc : cok q c) (hLr : rlL q L) (hsr : ∀ v ∈ st, rl q v) (hs4 : st.length ≤ 4) (hrm : rmOf E (1, 19) n)
    (kk : Gi E (n.1 + 1, n.2 + 19) (pc + 3 + 3 + 3) L (.ref q :: st) (c :: (r ++ [.inl (0, 19, firstS)]))) : Gi E n pc L st (c :: r) := by
  have hq : (c :: r).length = q := hr.1
  have hwk := Wr_wok hr hcc
  subst hq
  exact gi_first F hZ h1d hw hd1 hd2 hd3 hwk (by simp) hLr hsr hs4 hrm kk
theorem gi_newq0 (F : Fx E own cc maxL d) (hAO : AOE E) {ix N : Nat} {k : Int32} (hk : ¬ k < 0) (hN : k.toNatClampNeg = N) (hN2 : N ≤ 1000) (hw : wsHas [.classLink own ix RX4] = true) (hd : decode cc pc = .ok (.anewarray ix, 3)) (hr : Wr q r) (hcc : cok q c) (hLr : rlL q L) (hsr : ∀ v ∈ st, rl q v) (hrm : rmOf E (1, N) n) (kk : Gi E (n.1 + 1, n.2 + N) (pc + 3) L (.ref q :: st) (c :: (r ++ [.inr (.inr (N, fun _ => none))]))) : Gi E n pc L (.int k :: st) (c :: r) := by
  have hq : (c :: r).length = q := hr.1
  have hwk := Wr_wok hr hcc
  subst hq
  exact gi_newq F hAO hk hN hN2 hw hd hwk (by simp) hLr hsr hrm kk
theorem gi_putF0 (F : Fx E own cc maxL d) (hin : inIt E) {ix ci slot : Nat} {v : Value} {fs fs' : List Value} (hsl : slot < fs.length) (hfin : ∀ C T N, classes[ci]? = some (C, T, N) → (T slot).2.2.2 = true ∧ (T slot).1 = own) (hn1 : ∀ ad, narrow (tyOf ci slot) (xv ad v) = xv ad v) (hn2 : ∀ ad, fits (tyOf ci slot) (xv ad v) = true) (hf : fldOk own ix ci slot = true) (hd : decode cc pc = .ok (.putfield ix, 3)) (hfs : fs.set slot v = fs') (kk : Gi E n (pc + 3) L st (.inr (.inl (ci, fs')) :: r)) : Gi E n pc L (v :: .ref 0 :: st) (.inr (.inl (ci, fs)) :: r) := by
  subst hfs
  exact gi_putF F hin (w := .inr (.inl (ci, fs)) :: r) (k := 0) rfl hsl hfin hn1 hn2 hf hd kk
theorem gi_putV0 (F : Fx E own cc maxL d) {ix ci slot : Nat} {v : Value} {fs fs' : List Value} (hsl : slot < fs.length) (hfin : ∀ C T N, classes[ci]? = some (C, T, N) → (T slot).2.2.2 = false) (hn1 : ∀ ad, narrow (tyOf ci slot) (xv ad v) = xv ad v) (hn2 : ∀ ad, fits (tyOf ci slot) (xv ad v) = true) (hf : fldOk own ix ci slot = true) (hd : decode cc pc = .ok (.putfield ix, 3)) (hfs : fs.set slot v = fs') (kk : Gi E n (pc + 3) L st (.inr (.inl (ci, fs')) :: r)) : Gi E n pc L (v :: .ref 0 :: st) (.inr (.inl (ci, fs)) :: r) := by
  subst hfs
  exact gi_putV F (w := .inr (.inl (ci, fs)) :: r) (k := 0) rfl hsl hfin hn1 hn2 hf hd kk
end
theorem dfl_X0 : ∀ j, j < 5 → defaultValue (tyOf 0 j) = vp_V [.null, .null, .null, .null, .int 0] j := fun j hj => by
    match j, hj with
    | 0, _ => rfl
    | 1, _ => rfl
    | 2, _ => rfl
    | 3, _ => rfl
    | 4, _ => rfl
    | n + 5, h => exact absurd h (by omega)
theorem dfl_X1 : ∀ j, j < 4 → defaultValue (tyOf 1 j) = vp_V [.null, .int 0, .int 0, .int 0] j := fun j hj => by
    match j, hj with
    | 0, _ => rfl
    | 1, _ => rfl
    | 2, _ => rfl
    | 3, _ => rfl
    | n + 4, h => exact absurd h (by omega)
theorem dfl_X2 : ∀ j, j < 7 → defaultValue (tyOf 2 j) = vp_V [.null, .int 0, .int 0, .int 0, .int 0, .int 0, .int 0] j := fun j hj => by
    match j, hj with
    | 0, _ => rfl
    | 1, _ => rfl
    | 2, _ => rfl
    | 3, _ => rfl
    | 4, _ => rfl
    | 5, _ => rfl
    | 6, _ => rfl
    | n + 7, h => exact absurd h (by omega)
theorem dfl_X3 : ∀ j, j < 10 → defaultValue (tyOf 3 j) = vp_V [.null, .null, .null, .null, .null, .null, .null, .null, .int 0, .int 0] j := fun j hj => by
    match j, hj with
    | 0, _ => rfl
    | 1, _ => rfl
    | 2, _ => rfl
    | 3, _ => rfl
    | 4, _ => rfl
    | 5, _ => rfl
    | 6, _ => rfl
    | 7, _ => rfl
    | 8, _ => rfl
    | 9, _ => rfl
    | n + 10, h => exact absurd h (by omega)
theorem dfl_X5 : ∀ j, j < 7 → defaultValue (tyOf 5 j) = vp_V [.null, .null, .int 0, .null, .null, .null, .int 0] j := fun j hj => by
    match j, hj with
    | 0, _ => rfl
    | 1, _ => rfl
    | 2, _ => rfl
    | 3, _ => rfl
    | 4, _ => rfl
    | 5, _ => rfl
    | 6, _ => rfl
    | n + 7, h => exact absurd h (by omega)
theorem dfl_X4 : ∀ j, j < 17 → defaultValue (tyOf 4 j) = vp_V [.null, .null, .null, .null, .null, .int 0, .int 0, .int 0, .int 0, .int 0, .int 0, .int 0, .int 0, .int 0, .int 0, .int 0, .int 0] j := fun j hj => by
    match j, hj with
    | 0, _ => rfl
    | 1, _ => rfl
    | 2, _ => rfl
    | 3, _ => rfl
    | 4, _ => rfl
    | 5, _ => rfl
    | 6, _ => rfl
    | 7, _ => rfl
    | 8, _ => rfl
    | 9, _ => rfl
    | 10, _ => rfl
    | 11, _ => rfl
    | 12, _ => rfl
    | 13, _ => rfl
    | 14, _ => rfl
    | 15, _ => rfl
    | 16, _ => rfl
    | n + 17, h => exact absurd h (by omega)
set_option maxHeartbeats 1000000 in
theorem conf_X4 : ConF yX4_init cX4_init 1 2 (23, 184) (.inr (.inl (4, [.null, .null, .null, .null, .null, .int 0, .int 0, .int 0, .int 0, .int 0, .int 0, .int 0, .int 0, .int 0, .int 0, .int 0, .int 0]))) (stW S0) := by
  refine ConF.of (by decide) rfl (by decide) (by simp [cok, rl]) (fun E F G I Cs Rm H hZ => ?_)
  change Gi E (0, 0) 0 (xarg [.ref 0] 1) [] (.inr (.inl (4, [.null, .null, .null, .null, .null, .int 0, .int 0, .int 0, .int 0, .int 0, .int 0, .int 0, .int 0, .int 0, .int 0, .int 0, .int 0])) :: [])
  refine gi_aload F dX4_init_0 rfl rfl ?_
  refine gi_obj F (by decide +kernel) dX4_init_1 (by decide) (by decide) ?_
  refine gi_aload F dX4_init_4 rfl rfl ?_
  refine gi_first0 (q := 1) F hZ (by decide) (by decide +kernel) dX4_init_5 dX4_init_8 dX4_init_11 Wr0 (by simp [cok, rl]) (by simp [rlL, rl, xarg, xargs]) (by simp [rl]) (by decide) (Rm _ _ (by decide) (by decide)) ?_
  refine gi_putF0 F I (ci := 4) (slot := 0) (fs := [.null, .null, .null, .null, .null, .int 0, .int 0, .int 0, .int 0, .int 0, .int 0, .int 0, .int 0, .int 0, .int 0, .int 0, .int 0]) (fs' := [.ref 1, .null, .null, .null, .null, .int 0, .int 0, .int 0, .int 0, .int 0, .int 0, .int 0, .int 0, .int 0, .int 0, .int 0, .int 0]) (by simp) (fun _ _ _ h => by cases h; exact ⟨rfl, rfl⟩) (fun _ => rfl) (fun _ => rfl) (by decide +kernel) dX4_init_14 rfl ?_
  refine gi_aload F dX4_init_17 rfl rfl ?_
  refine gi_mk F (C := RX3) (T := TX3) (N := 10) (host := RX6) (q := 2) coni_X3 (Wr_one (k := 1) Wr0 trivial) (by simp [cok, rl]) rfl (fun _ => rfl) (by simp [cok, rl]) dfl_X3 (by decide +kernel) (by decide +kernel) (by decide) dX4_init_18 dX4_init_21 dX4_init_22 (by simp [rlL, rl, xarg, xargs]) (by simp [rl]) (by decide) (by decide) (Rm _ _ (by decide) (by decide)) (Rm _ _ (by decide) (by decide)) ?_
  refine gi_putF0 F I (ci := 4) (slot := 1) (fs := [.ref 1, .null, .null, .null, .null, .int 0, .int 0, .int 0, .int 0, .int 0, .int 0, .int 0, .int 0, .int 0, .int 0, .int 0, .int 0]) (fs' := [.ref 1, .ref 2, .null, .null, .null, .int 0, .int 0, .int 0, .int 0, .int 0, .int 0, .int 0, .int 0, .int 0, .int 0, .int 0, .int 0]) (by simp) (fun _ _ _ h => by cases h; exact ⟨rfl, rfl⟩) (fun _ => rfl) (fun _ => rfl) (by decide +kernel) dX4_init_25 rfl ?_
  refine gi_aload F dX4_init_28 rfl rfl ?_
  refine gi_mk F (C := RX5) (T := TX5) (N := 7) (host := RX6) (q := 11) coni_X5 (Wr_app (k := 2) (m := 9) (Wr_one (k := 1) Wr0 trivial) (wok_p _) rfl) (by simp [cok, rl]) rfl (fun _ => rfl) (by simp [cok, rl]) dfl_X5 (by decide +kernel) (by decide +kernel) (by decide) dX4_init_29 dX4_init_32 dX4_init_33 (by simp [rlL, rl, xarg, xargs]) (by simp [rl]) (by decide) (by decide) (Rm _ _ (by decide) (by decide)) (Rm _ _ (by decide) (by decide)) ?_
  refine gi_putF0 F I (ci := 4) (slot := 2) (fs := [.ref 1, .ref 2, .null, .null, .null, .int 0, .int 0, .int 0, .int 0, .int 0, .int 0, .int 0, .int 0, .int 0, .int 0, .int 0, .int 0]) (fs' := [.ref 1, .ref 2, .ref 11, .null, .null, .int 0, .int 0, .int 0, .int 0, .int 0, .int 0, .int 0, .int 0, .int 0, .int 0, .int 0, .int 0]) (by simp) (fun _ _ _ h => by cases h; exact ⟨rfl, rfl⟩) (fun _ => rfl) (fun _ => rfl) (by decide +kernel) dX4_init_36 rfl ?_
  refine gi_aload F dX4_init_39 rfl rfl ?_
  refine gi_mk F (C := RX1) (T := TX1) (N := 4) (host := RX6) (q := 17) coni_X1 (Wr_app (k := 11) (m := 6) (Wr_app (k := 2) (m := 9) (Wr_one (k := 1) Wr0 trivial) (wok_p _) rfl) (wok_z _) rfl) (by simp [cok, rl]) rfl (fun _ => rfl) (by simp [cok, rl]) dfl_X1 (by decide +kernel) (by decide +kernel) (by decide) dX4_init_40 dX4_init_43 dX4_init_44 (by simp [rlL, rl, xarg, xargs]) (by simp [rl]) (by decide) (by decide) (Rm _ _ (by decide) (by decide)) (Rm _ _ (by decide) (by decide)) ?_
  refine gi_putF0 F I (ci := 4) (slot := 3) (fs := [.ref 1, .ref 2, .ref 11, .null, .null, .int 0, .int 0, .int 0, .int 0, .int 0, .int 0, .int 0, .int 0, .int 0, .int 0, .int 0, .int 0]) (fs' := [.ref 1, .ref 2, .ref 11, .ref 17, .null, .int 0, .int 0, .int 0, .int 0, .int 0, .int 0, .int 0, .int 0, .int 0, .int 0, .int 0, .int 0]) (by simp) (fun _ _ _ h => by cases h; exact ⟨rfl, rfl⟩) (fun _ => rfl) (fun _ => rfl) (by decide +kernel) dX4_init_47 rfl ?_
  refine gi_aload F dX4_init_50 rfl rfl ?_
  refine gi_mk F (C := RX0) (T := TX0) (N := 5) (host := RX6) (q := 19) coni_X0 (Wr_app (k := 17) (m := 2) (Wr_app (k := 11) (m := 6) (Wr_app (k := 2) (m := 9) (Wr_one (k := 1) Wr0 trivial) (wok_p _) rfl) (wok_z _) rfl) (wok_n _) rfl) (by simp [cok, rl]) rfl (fun _ => rfl) (by simp [cok, rl]) dfl_X0 (by decide +kernel) (by decide +kernel) (by decide) dX4_init_51 dX4_init_54 dX4_init_55 (by simp [rlL, rl, xarg, xargs]) (by simp [rl]) (by decide) (by decide) (Rm _ _ (by decide) (by decide)) (Rm _ _ (by decide) (by decide)) ?_
  refine gi_putF0 F I (ci := 4) (slot := 4) (fs := [.ref 1, .ref 2, .ref 11, .ref 17, .null, .int 0, .int 0, .int 0, .int 0, .int 0, .int 0, .int 0, .int 0, .int 0, .int 0, .int 0, .int 0]) (fs' := [.ref 1, .ref 2, .ref 11, .ref 17, .ref 19, .int 0, .int 0, .int 0, .int 0, .int 0, .int 0, .int 0, .int 0, .int 0, .int 0, .int 0, .int 0]) (by simp) (fun _ _ _ h => by cases h; exact ⟨rfl, rfl⟩) (fun _ => rfl) (fun _ => rfl) (by decide +kernel) dX4_init_58 rfl ?_
  refine gi_aload F dX4_init_61 rfl rfl ?_
  refine gi_sipush F (v := 10000) dX4_init_62 (by decide) ?_
  refine gi_putV0 F (ci := 4) (slot := 7) (fs := [.ref 1, .ref 2, .ref 11, .ref 17, .ref 19, .int 0, .int 0, .int 0, .int 0, .int 0, .int 0, .int 0, .int 0, .int 0, .int 0, .int 0, .int 0]) (fs' := [.ref 1, .ref 2, .ref 11, .ref 17, .ref 19, .int 0, .int 0, .int 10000, .int 0, .int 0, .int 0, .int 0, .int 0, .int 0, .int 0, .int 0, .int 0]) (by simp) (fun _ _ _ h => by cases h; rfl) (fun _ => rfl) (fun _ => rfl) (by decide +kernel) dX4_init_65 rfl ?_
  refine gi_vret F G Cs dX4_init_68 ?_
  have e := st_r S0
  have H2 := H
  rw [show stW S0 = .inr (.inl (4, [.ref 1, .ref 2, .ref 11, .ref 17, .ref 19, .int 0, .int 0, .int 10000, .int 0, .int 0, .int 0, .int 0, .int 0, .int 0, .int 0, .int 0, .int 0])) :: _ from rfl] at H2
  rw [← e] at H2
  exact H2
def px6 (f : Nat → Option Nat) : xCell := .inr (.inr (4, f))
def cx6 : xCell := .inr (.inl (6, [.ref 1, .ref 25, .ref 49, .int 0, .ref 50]))
theorem cok_cx6 {k : Nat} (h : 51 ≤ k) : cok k cx6 := by
  intro v hv
  simp only [List.mem_cons, List.not_mem_nil, or_false] at hv
  rcases hv with rfl | rfl | rfl | rfl | rfl
  · show 1 < k; omega
  · show 25 < k; omega
  · show 49 < k; omega
  · trivial
  · show 50 < k; omega
theorem x6_L {k : Nat} {x : Int32} (h : 0 < k) : rlL k [some (.ref 0), some (.int x)] := by
  intro v hv
  simp only [List.mem_cons, List.not_mem_nil, or_false, Option.some.injEq] at hv
  rcases hv with rfl | rfl
  · exact h
  · trivial
theorem x6_st {k : Nat} {x : Int32} (h : 49 < k) : ∀ v ∈ [Value.int x, .ref 49], rl k v := by
  intro v hv
  simp only [List.mem_cons, List.not_mem_nil, or_false] at hv
  rcases hv with rfl | rfl
  · trivial
  · exact h
theorem x6_get {c : xCell} {r : xW} {k : Nat} (h : Wr k r) : ∃ fs, (c :: (r ++ sh k (stW S0)))[k]? = some (.inr (.inl (4, fs))) := by
  rw [← h.1, List.getElem?_cons_succ, List.getElem?_append_right (Nat.le_refl _), Nat.sub_self]
  exact ⟨_, rfl⟩
set_option maxHeartbeats 1000000 in
theorem x6_turn {E : En} (F : Fx E RX6 cX6_init 2 3) (hZ : ZF E) (Rm : ∀ k' n : Nat × Nat, n.1 + k'.1 ≤ 147 → n.2 + k'.2 ≤ 1277 → rmOf E k' n) {a b i k : Nat} {x x' : Int32} {f : Nat → Option Nat} {u t : xW} (hu : u.length = 48) (hr : Wr k (u ++ px6 f :: t)) (hk : 51 ≤ k) (hx : nI i = x) (hx' : x + 1 = x') (hi : i < 4) (ha : a + 24 ≤ 147) (hb : b + 201 ≤ 1277)
    (kk : Wr (k + 24) (u ++ px6 (va_up f i (some k)) :: (t ++ sh k (stW S0))) → Gi E (a + 24, b + 201) 47 [some (.ref 0), some (.int x')] [] (cx6 :: (u ++ px6 (va_up f i (some k)) :: (t ++ sh k (stW S0))))) : Gi E (a, b) 47 [some (.ref 0), some (.int x)] [] (cx6 :: (u ++ px6 f :: t)) := by
  have hlt : x < 4 := by
    rw [← hx, show (4 : Int32) = nI 4 from rfl, nI_ltI (by omega) (by decide)]
    exact hi
  have hv : vp_in x 4 := by rw [← hx]; exact vp_in_nI (by omega) (by omega)
  have hn : x.toNatClampNeg = i := by rw [← hx]; exact nI_clamp (by omega)
  refine gi_iload F (i := 1) (x := x) dX6_init_47 rfl rfl ?_
  refine gi_iconst F (v := 4) dX6_init_48 (by decide) ?_
  refine gi_icmp_ge F dX6_init_49 (by decide : ((49 : Nat) : Int) + 22 = ((71 : Nat) : Int)) (fun h => absurd hlt h) (fun _ => ?_)
  refine gi_aload F dX6_init_52 rfl rfl ?_
  refine gi_getf F (ci := 6) (slot := 2) (k := 0) (v := .ref 49) rfl rfl (by decide +kernel) dX6_init_53 ?_
  refine gi_iload F (i := 1) (x := x) dX6_init_56 rfl rfl ?_
  refine gi_mkF F hZ (C := RX4) (T := TX4) (N := 17) (host := RX6) (q := k) conf_X4 hr (cok_cx6 hk) rfl (fun _ => rfl) (by simp [cok, rl]) dfl_X4 (by decide +kernel) (by decide +kernel) (by decide) dX6_init_57 dX6_init_60 dX6_init_61 (x6_L (by omega)) (x6_st (by omega)) (by simp) (by rw [st_len]; decide) (Rm _ _ (by show a + 1 ≤ 147; omega) (by show b + 17 ≤ 1277; omega)) (Rm _ _ (by show a + 1 + 23 ≤ 147; omega) (by show b + 17 + 184 ≤ 1277; omega)) ?_
  have hr2 := Wr_app hr (wok_st S0) (st_len S0)
  obtain ⟨fs, hg⟩ := x6_get (c := cx6) hr
  have ea : (u ++ px6 f :: t) ++ sh k (stW S0) = u ++ px6 f :: (t ++ sh k (stW S0)) := by rw [List.append_assoc, List.cons_append]
  rw [ea] at hr2 hg ⊢
  refine gi_aast F (u := cx6 :: u) (t := t ++ sh k (stW S0)) (N := 4) (f := f) (j := i) rfl (by rw [List.length_cons, hu]) hg hn hv dX6_init_64 ?_
  have hkf : cok (k + 24) (px6 (va_up f i (some k))) := by
    intro j m hm
    have hm : (if j = i then some k else f j) = some m := hm
    split at hm
    · cases hm; omega
    · have := hr.2 (px6 f) (List.mem_append.mpr (Or.inr List.mem_cons_self)) j m hm
      omega
  refine gi_iinc F (v := 1) (x := x) (y := x') dX6_init_65 (by decide) (by decide) rfl hx' ?_
  refine gi_goto F dX6_init_68 (by decide : ((68 : Nat) : Int) + (-21) = ((47 : Nat) : Int)) ?_
  exact kk (Wr_mid hr2 hkf)
theorem fp_r : (sh 1 (stW S0) ++ sh 25 (stW S0)) ++ px6 (va_up (va_up (va_up (va_up (fun _ => none) 0 (some 52)) 1 (some 76)) 2 (some 100)) 3 (some 124)) :: ((((sh 50 (oW O0) ++ sh 52 (stW S0)) ++ sh 76 (stW S0)) ++ sh 100 (stW S0)) ++ sh 124 (stW S0)) = sh 1 (stW S0) ++ (sh 25 (stW S0) ++ (.inr (.inr (4, perm0)) :: (sh 50 (oW O0) ++ (sh 52 (stW S0) ++ (sh 76 (stW S0) ++ (sh 100 (stW S0) ++ sh 124 (stW S0))))))) := by
  have e : va_up (va_up (va_up (va_up (fun _ => none) 0 (some 52)) 1 (some 76)) 2 (some 100)) 3 (some 124) = perm0 := rfl
  rw [e]
  simp only [List.append_assoc]
  rfl
set_option maxHeartbeats 1000000 in
theorem conf_X6 : ConF yX6_init cX6_init 2 3 (147, 1277) (.inr (.inl (6, [.null, .null, .null, .int 0, .null]))) (fpW FP0) := by
  refine ConF.of (by decide) rfl (by decide) (by simp [cok, rl]) (fun E F G I Cs Rm H hZ => ?_)
  change Gi E (0, 0) 0 (xarg [.ref 0] 2) [] (.inr (.inl (6, [.null, .null, .null, .int 0, .null])) :: [])
  refine gi_aload F dX6_init_0 rfl rfl ?_
  refine gi_obj F (by decide +kernel) dX6_init_1 (by decide) (by decide) ?_
  refine gi_aload F dX6_init_4 rfl rfl ?_
  refine gi_mkF F hZ (C := RX4) (T := TX4) (N := 17) (host := RX6) (q := 1) conf_X4 Wr0 (by simp [cok, rl]) rfl (fun _ => rfl) (by simp [cok, rl]) dfl_X4 (by decide +kernel) (by decide +kernel) (by decide) dX6_init_5 dX6_init_8 dX6_init_9 (by simp [rlL, rl, xarg, xargs]) (by simp [rl]) (by decide) (by rw [st_len]; decide) (Rm _ _ (by decide) (by decide)) (Rm _ _ (by decide) (by decide)) ?_
  refine gi_putF0 F I (ci := 6) (slot := 0) (fs := [.null, .null, .null, .int 0, .null]) (fs' := [.ref 1, .null, .null, .int 0, .null]) (by simp) (fun _ _ _ h => by cases h; exact ⟨rfl, rfl⟩) (fun _ => rfl) (fun _ => rfl) (by decide +kernel) dX6_init_12 rfl ?_
  refine gi_aload F dX6_init_15 rfl rfl ?_
  refine gi_mkF F hZ (C := RX4) (T := TX4) (N := 17) (host := RX6) (q := 25) conf_X4 (Wr_app (k := 1) (m := 24) Wr0 (wok_st _) (st_len _)) (by simp [cok, rl]) rfl (fun _ => rfl) (by simp [cok, rl]) dfl_X4 (by decide +kernel) (by decide +kernel) (by decide) dX6_init_16 dX6_init_19 dX6_init_20 (by simp [rlL, rl, xarg, xargs]) (by simp [rl]) (by decide) (by rw [st_len]; decide) (Rm _ _ (by decide) (by decide)) (Rm _ _ (by decide) (by decide)) ?_
  refine gi_putF0 F I (ci := 6) (slot := 1) (fs := [.ref 1, .null, .null, .int 0, .null]) (fs' := [.ref 1, .ref 25, .null, .int 0, .null]) (by simp) (fun _ _ _ h => by cases h; exact ⟨rfl, rfl⟩) (fun _ => rfl) (fun _ => rfl) (by decide +kernel) dX6_init_23 rfl ?_
  refine gi_aload F dX6_init_26 rfl rfl ?_
  refine gi_iconst F (v := 4) dX6_init_27 (by decide) ?_
  refine gi_newq0 (q := 49) F (ZF_AO hZ) (N := 4) (by decide) rfl (by decide) (by decide +kernel) dX6_init_28 (Wr_app (k := 25) (m := 24) (Wr_app (k := 1) (m := 24) Wr0 (wok_st _) (st_len _)) (wok_st _) (st_len _)) (by simp [cok, rl]) (by simp [rlL, rl, xarg, xargs]) (by simp [rl]) (Rm _ _ (by decide) (by decide)) ?_
  refine gi_putF0 F I (ci := 6) (slot := 2) (fs := [.ref 1, .ref 25, .null, .int 0, .null]) (fs' := [.ref 1, .ref 25, .ref 49, .int 0, .null]) (by simp) (fun _ _ _ h => by cases h; exact ⟨rfl, rfl⟩) (fun _ => rfl) (fun _ => rfl) (by decide +kernel) dX6_init_31 rfl ?_
  refine gi_aload F dX6_init_34 rfl rfl ?_
  refine gi_mk F (C := RX2) (T := TX2) (N := 7) (host := RX6) (q := 50) coni_X2 (Wr_one (k := 49) (c := .inr (.inr (4, fun _ => none))) (Wr_app (k := 25) (m := 24) (Wr_app (k := 1) (m := 24) Wr0 (wok_st _) (st_len _)) (wok_st _) (st_len _)) (fun j k h => by cases h)) (by simp [cok, rl]) rfl (fun _ => rfl) (by simp [cok, rl]) dfl_X2 (by decide +kernel) (by decide +kernel) (by decide) dX6_init_35 dX6_init_38 dX6_init_39 (by simp [rlL, rl, xarg, xargs]) (by simp [rl]) (by decide) (by decide) (Rm _ _ (by decide) (by decide)) (Rm _ _ (by decide) (by decide)) ?_
  refine gi_putF0 F I (ci := 6) (slot := 4) (fs := [.ref 1, .ref 25, .ref 49, .int 0, .null]) (fs' := [.ref 1, .ref 25, .ref 49, .int 0, .ref 50]) (by simp) (fun _ _ _ h => by cases h; exact ⟨rfl, rfl⟩) (fun _ => rfl) (fun _ => rfl) (by decide +kernel) dX6_init_42 rfl ?_
  have hr := (Wr_app (k := 50) (m := 2) (Wr_one (k := 49) (c := .inr (.inr (4, fun _ => none))) (Wr_app (k := 25) (m := 24) (Wr_app (k := 1) (m := 24) Wr0 (wok_st S0) (st_len S0)) (wok_st S0) (st_len S0)) (fun j k h => by cases h)) (wok_o O0) rfl)
  have ea : ((([] ++ sh 1 (stW S0)) ++ sh 25 (stW S0)) ++ [(.inr (.inr (4, fun _ => none)) : xCell)]) ++ sh 50 (oW O0) = (sh 1 (stW S0) ++ sh 25 (stW S0)) ++ px6 (fun _ => none) :: sh 50 (oW O0) := by
    simp only [List.nil_append, List.append_assoc, List.cons_append]
    rfl
  rw [ea] at hr
  have hu : (sh 1 (stW S0) ++ sh 25 (stW S0)).length = 48 := by simp [st_len]
  refine gi_iconst F (v := 0) dX6_init_45 (by decide) ?_
  refine gi_istore F (i := 1) dX6_init_46 rfl (by decide) ?_
  rw [ea]
  refine x6_turn (k := 52) (i := 0) (x' := 1) F hZ Rm hu hr (by decide) rfl (by decide) (by decide) (by decide) (by decide) (fun hr => ?_)
  refine x6_turn (k := 76) (i := 1) (x' := 2) F hZ Rm hu hr (by decide) rfl (by decide) (by decide) (by decide) (by decide) (fun hr => ?_)
  refine x6_turn (k := 100) (i := 2) (x' := 3) F hZ Rm hu hr (by decide) rfl (by decide) (by decide) (by decide) (by decide) (fun hr => ?_)
  refine x6_turn (k := 124) (i := 3) (x' := 4) F hZ Rm hu hr (by decide) rfl (by decide) (by decide) (by decide) (by decide) (fun hr => ?_)
  refine gi_iload F (i := 1) (x := 4) dX6_init_47 rfl rfl ?_
  refine gi_iconst F (v := 4) dX6_init_48 (by decide) ?_
  refine gi_icmp_ge F dX6_init_49 (by decide : ((49 : Nat) : Int) + 22 = ((71 : Nat) : Int)) (fun _ => ?_) (fun h => absurd h (by decide))
  refine gi_vret F G Cs dX6_init_71 ?_
  rw [fp_r]
  exact H
