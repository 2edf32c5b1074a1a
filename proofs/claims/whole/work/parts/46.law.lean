/-! ===== the law's loop: its world, its operations ===== -/
abbrev LT : Type := FT × QT
def lW (S : LT) : xW := (fpW S.1).map (xcr (fun i => 0 + i)) ++ (aW S.2).map (xcr (fun i => 148 + i))
set_option maxRecDepth 100000 in
theorem fpW_len (F : FT) : (fpW F).length = 148 := rfl
theorem ln_lw_F : Lens lW fpW 0 (fun S : LT => S.1) (fun S F => (F, S.2)) := fun S P' => ⟨[], (aW S.2).map (xcr (fun i => 148 + i)), rfl, rfl, rfl⟩
theorem ln_lw_Q : Lens lW aW 148 (fun S : LT => S.2) (fun S q => (S.1, q)) := fun S P' => ⟨(fpW S.1).map (xcr (fun i => 0 + i)), [], by rw [List.length_map]; exact fpW_len _, by rw [List.append_nil]; rfl, by rw [List.append_nil]; rfl⟩
/-- any contract will do -/
def spG {τ : Type} (y : MethodName) (cc : ByteArray) (maxL : Nat) (ret : Option FieldType) (d : Nat) (toW : τ → xW) : Sp τ := fun av P K => ∃ (x : Int32) (P' : τ), Con y cc maxL ret d toW av P (some (.int x)) P' ∧ K (some (.int x)) P'
theorem spG_eq {τ : Type} (y : MethodName) (cc : ByteArray) (maxL : Nat) (ret : Option FieldType) (d : Nat) (toW : τ → xW) (av : List Value) (P : τ) (K : Option Value → τ → Prop) : spG y cc maxL ret d toW av P K = ∃ (x : Int32) (P' : τ), Con y cc maxL ret d toW av P (some (.int x)) P' ∧ K (some (.int x)) P' := rfl
theorem spG_ok {τ : Type} (y : MethodName) (cc : ByteArray) (maxL : Nat) (ret : Option FieldType) (d : Nat) (toW : τ → xW) : SpOk y cc maxL ret d toW (spG y cc maxL ret d toW) := fun _ _ _ ⟨x, P', h1, h2⟩ => ⟨some (.int x), P', trivial, h1, h2⟩
def O_callZ {σ τ : Type} (n b : Nat) (y : MethodName) (cc : ByteArray) (maxL : Nat) (ret : Option FieldType) (d : Nat) (toT : τ → xW) (g : σ → τ) (f : σ → τ → σ) : Op σ := fun K pc L st S => match st.drop n with
  | .ref k :: r => k = b ∧ r.length ≤ 4 ∧ (st.take n).all xint = true ∧ ∃ (x : Int32) (P' : τ), ConS y cc maxL ret d toT (.ref 0 :: (st.take n).reverse) (g S) (some (.int x)) P' ∧ K (pc + 3) L (.int x :: r) (f S P')
  | _ => False
def Zsc (k n : Nat) (f : Nat → Int32) (E : En) : Prop := match E with
  | (p, l, e, R, s, m, args, below, meth, c, Qc, Q, cs, A, nL, D, ad) => ¬ A (ad k) ∧ ad k < s.heap.size ∧ va_X (ad k) n f s s.heap
def O_sal {σ : Type} (k n : Nat) : Op σ := fun K pc L st S => match st with
  | .ref k' :: r => k' = k ∧ K (pc + 1) L (.int (nI n) :: r) S
  | _ => False
theorem O_z_eq : ∀ {σ τ : Type} (K : Kt σ) (pc : Nat) (S : σ) (L : xL) (st r : List Value) (k n b : Nat) (y : MethodName) (cc : ByteArray) (maxL : Nat) (ret : Option FieldType) (d : Nat) (toT : τ → xW) (g : σ → τ) (f : σ → τ → σ), st.drop n = .ref k :: r → O_callZ n b y cc maxL ret d toT g f K pc L st S = (k = b ∧ r.length ≤ 4 ∧ (st.take n).all xint = true ∧ ∃ (x : Int32) (P' : τ), ConS y cc maxL ret d toT (.ref 0 :: (st.take n).reverse) (g S) (some (.int x)) P' ∧ K (pc + 3) L (.int x :: r) (f S P')) := by
  intro σ τ K pc S L st r k n b y cc maxL ret d toT g f h
  unfold O_callZ
  rw [h]
theorem O_s_eq : (∀ {σ : Type} (K : Kt σ) (pc : Nat) (S : σ) (L : xL) (r : List Value) (k k' n : Nat), O_sal k n K pc L (.ref k' :: r) S = (k' = k ∧ K (pc + 1) L (.int (nI n) :: r) S)) := fun _ _ _ _ _ _ _ _ => rfl
section
variable {σ : Type} {E : En} {own : String} {cc : ByteArray} {maxL d pc : Nat} {toW : σ → xW}
theorem ok_sald (F : Fx E own cc maxL d) {k n : Nat} {f : Nat → Int32} (hz : Zsc k n f E) (hd : decode cc pc = .ok (.iaload, 1)) (hpc : pc + 1 < 100000) : OpOk E toW pc (O_gald (σ := σ) k n f) := by
  refine OpOk.mk (by omega) fun {p l e R s m args below meth c Qc Q cs A nL D ad} hE K L st S ho hk H locs hP hap hS hL hn ls hl => ?_
  subst hE
  unfold O_gald at ho
  split at ho
  · rename_i i k' r
    obtain ⟨rfl, h2, h3⟩ := ho
    exact va_sld F.1 F.2.1 hz.2.2 hz.2.1 hz.1 hS h2 hd ((hk _ _ _ _ h3).use hpc hP hap hS hL hn hl)
  · exact ho.elim
theorem ok_sal (F : Fx E own cc maxL d) {k n : Nat} {f : Nat → Int32} (hz : Zsc k n f E) (hd : decode cc pc = .ok (.arraylength, 1)) (hpc : pc + 1 < 100000) : OpOk E toW pc (O_sal (σ := σ) k n) := by
  refine OpOk.mk (by omega) fun {p l e R s m args below meth c Qc Q cs A nL D ad} hE K L st S ho hk H locs hP hap hS hL hn ls hl => ?_
  subst hE
  unfold O_sal at ho
  split at ho
  · rename_i k' r
    obtain ⟨rfl, h3⟩ := ho
    exact va_slen F.1 F.2.1 hz.2.2 hz.2.1 hz.1 hS hd ((hk _ _ _ _ h3).use hpc hP hap hS hL hn hl)
  · exact ho.elim
end
section
variable {σ τ : Type} {E : En} {own : String} {cc : ByteArray} {maxL d pc : Nat} {toW : σ → xW} {toT : τ → xW}
theorem blind_Z {av : List Value} {D : xD} {ad : Nat → Nat} {sz : Nat} {w : xW} {A : Nat → Prop} : FrameBlind (va_Pc av (fun U => xPre D ad sz w U ∧ ZSd D ad A U)) := fun a U g mk q => ⟨q.1, ⟨q.2.1.1, q.2.1.2.1, q.2.1.2.2.1.calling g mk a, q.2.1.2.2.2⟩, ⟨va_Z.moved (u := U) (U := U.calling g mk a) (Vm.Alike.refl U.vm) q.2.2.1, va_Z.moved (u := U) (U := U.calling g mk a) (Vm.Alike.refl U.vm) q.2.2.2.1, ⟨q.2.2.2.2.1.1, q.2.2.2.2.1.2.1, va_X.moved (u := U) (U := U.calling g mk a) (Vm.Alike.refl U.vm) q.2.2.2.2.1.2.2⟩, ⟨q.2.2.2.2.2.1, q.2.2.2.2.2.2.1, va_X.moved (u := U) (U := U.calling g mk a) (Vm.Alike.refl U.vm) q.2.2.2.2.2.2.2⟩⟩⟩
theorem va_Z_sub {C n d : String} {v : Value} {A B : Nat → Prop} {s U : State} {H : Heap} {locs : List Loc} (hS : va_S A s.heap H locs) (hAB : ∀ q, B q → A q) (hvm : s.vm.Alike U.vm) (h : va_Z C n d v A s s.heap) : va_Z C n d v B U H := by
  obtain ⟨cf, kf, fi, f, a, cell, h1, h2, h3, h4, h5, h6, h7, h8⟩ := h
  refine va_Z.moved hvm ⟨cf, kf, fi, f, a, cell, h1, h2, h3, h4, ?_, h6, h7, fun q => h8 (hAB _ q)⟩
  rw [hS.2.1 a (Array.getElem?_eq_some_iff.mp h5).1 h8]
  exact h5
theorem ok_callZ (F : Fx E own cc maxL d) (Z : ZS E) {ix n : Nat} {y : MethodName} {ycc : ByteArray} {ymL dy : Nat} {yret : Option FieldType} {g : σ → τ} {f : σ → τ → σ} (hln : Lens toW toT 0 g f) (hrc : rcvOk toT y.cls) (hck : cokV own ix y ycc ymL yret n = true) (hdd : dy + 1 ≤ d) (hd : decode cc pc = .ok (.invokevirtual ix, 3)) (hpc : pc + 3 < 100000) : OpOk E toW pc (O_callZ n 0 y ycc ymL yret dy toT g f) := by
  refine OpOk.mk (by omega) fun {p l e R s m args below meth c Qc Q cs A nL D ad} hE K L st S ho hk H locs hP hap hS hL hn ls hl => ?_
  subst hE
  unfold O_callZ at ho
  split at ho
  · rename_i k r hst
    obtain ⟨rfl, hr4, hints, rv, P', ⟨hlen, hM⟩, hK⟩ := ho
    obtain ⟨w1, w2, hb, hw, hw'⟩ := hln S P'
    have hEm := Emb.block (w2 := w2) hb hlen
    rw [← hw, ← hw'] at hEm
    obtain ⟨h1, h2, h3, h4, h5, h6, h7, h8, h9, h10, h11, h12, h13⟩ := id F
    simp only [cokV, Bool.and_eq_true, decide_eq_true_eq] at hck
    obtain ⟨hws, hd1, hd2, hd3, hd4⟩ := hck
    have hz := fun w (hh : w ∈ _) => wsHas_mem hws hh
    have hlt : n ≤ st.length := by
      rcases Nat.lt_or_ge st.length n with q | q
      · rw [List.drop_eq_nil_of_le (by omega)] at hst; cases hst
      · exact q
    have hsplit : st = st.take n ++ .ref 0 :: r := by rw [← hst, List.take_append_drop]
    obtain ⟨ci, fs, T, N, hr0, hrc0⟩ := hrc (g S)
    have hrcell := hEm.2.2.2.1 0 _ hr0
    have hAA := emb_A (D := D) (H := H) hEm hap (fun q hq => h9 q (Nat.le_trans hS.1 hq))
    have e0 : ∀ i, ad (0 + i) = ad i := fun i => by rw [Nat.zero_add]
    refine x_call (va_runV (y := y) (bytes := ycc) (maxL := ymL) (ret := yret) (n := n) (As := (st.take n).reverse) (rest := r.map (xv ad)) (b := ad 0) (C := y.cls) ⟨h1, h2, h3, h5, h6⟩ (hM l D (fun i => ad (0 + i)) H.size) (cwV n h6 (ws_GoodIn ?_) rfl rfl rfl ⟨rfl, hd1, hd2, hd3⟩ ⟨?_, ?_⟩) ⟨blind_Z, ?_, fun U hU hW => ⟨?_, ⟨?_, ?_, ?_, ?_⟩, ?_⟩⟩ rfl ?_ (hl.1) ?_ (lv_room (cat_sum8 hr4)) hd ⟨?_, ?_⟩) (fun v st₀ t L1 h0 hf hq => call_after F hEm (r := some (.int rv)) trivial rfl (hk _ _ _ _ hK) hpc hP hap hS hL hn hl h0 hf hq)
    · intro w hw
      simp only [wsV, List.mem_append, List.mem_cons, List.not_mem_nil, or_false] at hw
      rcases hw with (rfl | rfl | rfl | rfl) | rfl | hw
      · exact hz _ (by simp)
      · exact hz _ (by simp)
      · exact hz _ (by simp)
      · exact hz _ (by simp)
      · exact hz _ (by simp)
      · exact hw
    · show dy + 1 ≤ _; omega
    · show 8 + (ymL + 11) + 36 * dy ≤ _; omega
    · exact va_recv (ci := ci) (q0 := 0) h8.1 hP hrc0 (by rw [xw_get, show (toW S)[0]? = _ from hrcell]; rfl)
    · show _ = (List.map _ (Value.ref 0 :: (st.take n).reverse)).toArray
      rw [List.map_cons, xint_map (by rw [List.all_reverse]; exact hints)]
      rfl
    · rw [hU]
    · rw [hU]; exact emb_P hEm hP
    · exact h8.warm hW
    · intro i j hi hj hij
      exact hEm.2.2.1 i j hi hj (hap.1 _ _ (by have := (List.getElem?_eq_some_iff.mp (hEm.2.2.2.1 i _ (List.getElem?_eq_getElem hi))).1; exact this) (by have := (List.getElem?_eq_some_iff.mp (hEm.2.2.2.1 j _ (List.getElem?_eq_getElem hj))).1; exact this) hij)
    · obtain ⟨z1, z2, z3, z4⟩ := Z
      refine ⟨?_, ?_, ⟨?_, ?_, ?_⟩, ⟨?_, ?_, ?_⟩⟩
      · rw [hU, show (fun i => ad (0 + i)) 1000 = ad 1000 from e0 1000]; exact va_Z_sub hS hAA hW.alike z1
      · rw [hU, show (fun i => ad (0 + i)) 1001 = ad 1001 from e0 1001]; exact va_Z_sub hS hAA hW.alike z2
      · rw [show (fun i => ad (0 + i)) 1000 = ad 1000 from e0 1000]; exact fun q => z3.1 (hAA _ q)
      · rw [hU, show (fun i => ad (0 + i)) 1000 = ad 1000 from e0 1000]; exact Nat.lt_of_lt_of_le z3.2.1 hS.1
      · rw [hU, show (fun i => ad (0 + i)) 1000 = ad 1000 from e0 1000]; exact (va_X.moved hW.alike z3.2.2).kept (hS.2.1 _ z3.2.1 z3.1)
      · rw [show (fun i => ad (0 + i)) 1001 = ad 1001 from e0 1001]; exact fun q => z4.1 (hAA _ q)
      · rw [hU, show (fun i => ad (0 + i)) 1001 = ad 1001 from e0 1001]; exact Nat.lt_of_lt_of_le z4.2.1 hS.1
      · rw [hU, show (fun i => ad (0 + i)) 1001 = ad 1001 from e0 1001]; exact (va_X.moved hW.alike z4.2.2).kept (hS.2.1 _ z4.2.1 z4.1)
    · rw [List.length_reverse, List.length_take]; omega
    · show st.map _ = _
      rw [List.reverse_reverse]
      conv => lhs; rw [hsplit]
      rw [List.map_append, xint_map hints]
      rfl
    · omega
    · omega
  · exact ho.elim
end
