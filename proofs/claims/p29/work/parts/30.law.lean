/-! ===== the law: two stations side by side ===== -/
abbrev LT : Type := FT × FT
def lW (S : LT) : xW := (fpW S.1).map (xcr (fun i => 0 + i)) ++ (fpW S.2).map (xcr (fun i => 148 + i))
set_option maxRecDepth 100000 in
theorem fpW_len (F : FT) : (fpW F).length = 148 := rfl
theorem lW_len (S : LT) : (lW S).length = 296 := by
  unfold lW
  rw [List.length_append, List.length_map, List.length_map, fpW_len, fpW_len]
theorem ln_lw_F : Lens lW fpW 0 (fun S : LT => S.1) (fun S F => (F, S.2)) := fun S P' => ⟨[], (fpW S.2).map (xcr (fun i => 148 + i)), rfl, rfl, rfl⟩
theorem ln_lw_G : Lens lW fpW 148 (fun S : LT => S.2) (fun S G => (S.1, G)) := fun S P' => ⟨(fpW S.1).map (xcr (fun i => 0 + i)), [], by rw [List.length_map]; exact fpW_len _, by rw [List.append_nil]; rfl, by rw [List.append_nil]; rfl⟩
/-- any contract will do -/
def spG {τ : Type} (y : MethodName) (cc : ByteArray) (maxL : Nat) (ret : Option FieldType) (d : Nat) (toW : τ → xW) : Sp τ := fun av P K => ∃ (x : Int32) (P' : τ), Con y cc maxL ret d toW av P (some (.int x)) P' ∧ K (some (.int x)) P'
theorem spG_eq {τ : Type} (y : MethodName) (cc : ByteArray) (maxL : Nat) (ret : Option FieldType) (d : Nat) (toW : τ → xW) (av : List Value) (P : τ) (K : Option Value → τ → Prop) : spG y cc maxL ret d toW av P K = ∃ (x : Int32) (P' : τ), Con y cc maxL ret d toW av P (some (.int x)) P' ∧ K (some (.int x)) P' := rfl
theorem spG_ok {τ : Type} (y : MethodName) (cc : ByteArray) (maxL : Nat) (ret : Option FieldType) (d : Nat) (toW : τ → xW) : SpOk y cc maxL ret d toW (spG y cc maxL ret d toW) := fun _ _ _ ⟨x, P', h1, h2⟩ => ⟨some (.int x), P', trivial, h1, h2⟩
def O_callZ {σ τ : Type} (n b : Nat) (y : MethodName) (cc : ByteArray) (maxL : Nat) (ret : Option FieldType) (d : Nat) (toT : τ → xW) (g : σ → τ) (f : σ → τ → σ) : Op σ := fun K pc L st S => match st.drop n with
  | .ref k :: r => k = b ∧ r.length ≤ 4 ∧ (st.take n).all xint = true ∧ ∃ (x : Int32) (P' : τ), ConS y cc maxL ret d toT (.ref 0 :: (st.take n).reverse) (g S) (some (.int x)) P' ∧ K (pc + 3) L (.int x :: r) (f S P')
  | _ => False
def Zsc (k n : Nat) (f : Nat → Int32) (E : En) : Prop := match E with
  | (p, l, e, R, s, m, args, below, meth, c, Qc, Q, cs, A, nL, D, ad) => ¬ A (ad k) ∧ ad k < s.heap.size ∧ va_X (ad k) n f s s.heap
def O_sal {σ : Type} (k n : Nat) : Op σ := fun K pc L st S => match st with
  | .ref k' :: r => k' = k ∧ K (pc + 1) L (.int (nI n) :: r) S
  | _ => False
theorem O_z_eq : ∀ {σ τ : Type} (K : Kt σ) (pc : Nat) (S : σ) (L : xL) (st r : List Value) (k n b : Nat) (y : MethodName) (cc : ByteArray) (maxL : Nat) (ret : Option FieldType) (d : Nat) (toT : τ → xW) (g : σ → τ) (f : σ → τ → σ), st.drop n = .ref k :: r → O_callZ n b y cc maxL ret d toT g f K pc L st S = (k = b ∧ r.length ≤ 4 ∧ (st.take n).all xint = true ∧ ∃ (x : Int32) (P' : τ), ConS y cc maxL ret d toT (.ref 0 :: (st.take n).reverse) (g S) (some (.int x)) P' ∧ K (pc + 3) L (.int x :: r) (f S P')) := by
  intro σ τ K pc S L st r k n b y cc maxL ret d toT g f h
  unfold O_callZ
  rw [h]
theorem O_s_eq : (∀ {σ : Type} (K : Kt σ) (pc : Nat) (S : σ) (L : xL) (r : List Value) (k k' n : Nat), O_sal k n K pc L (.ref k' :: r) S = (k' = k ∧ K (pc + 1) L (.int (nI n) :: r) S)) := fun _ _ _ _ _ _ _ _ => rfl
section
variable {σ : Type} {E : En} {own : String} {cc : ByteArray} {maxL d pc : Nat} {toW : σ → xW}
theorem ok_sald (F : Fx E own cc maxL d) {k n : Nat} {f : Nat → Int32} (hz : Zsc k n f E) (hd : decode cc pc = .ok (.iaload, 1)) (hpc : pc + 1 < 100000) : OpOk E toW pc (O_gald (σ := σ) k n f) := by
  refine OpOk.mk (by omega) fun {p l e R s m args below meth c Qc Q cs A nL D ad} hE K L st S ho hk H locs hP hap hS hL hn ls hl => ?_
  subst hE
  unfold O_gald at ho
  split at ho
  · rename_i i k' r
    obtain ⟨rfl, h2, h3⟩ := ho
    exact va_sld F.1 F.2.1 hz.2.2 hz.2.1 hz.1 hS h2 hd ((hk _ _ _ _ h3).use hpc hP hap hS hL hn hl)
  · exact ho.elim
theorem ok_sal (F : Fx E own cc maxL d) {k n : Nat} {f : Nat → Int32} (hz : Zsc k n f E) (hd : decode cc pc = .ok (.arraylength, 1)) (hpc : pc + 1 < 100000) : OpOk E toW pc (O_sal (σ := σ) k n) := by
  refine OpOk.mk (by omega) fun {p l e R s m args below meth c Qc Q cs A nL D ad} hE K L st S ho hk H locs hP hap hS hL hn ls hl => ?_
  subst hE
  unfold O_sal at ho
  split at ho
  · rename_i k' r
    obtain ⟨rfl, h3⟩ := ho
    exact va_slen F.1 F.2.1 hz.2.2 hz.2.1 hz.1 hS hd ((hk _ _ _ _ h3).use hpc hP hap hS hL hn hl)
  · exact ho.elim
end
section
variable {σ τ : Type} {E : En} {own : String} {cc : ByteArray} {maxL d pc : Nat} {toW : σ → xW} {toT : τ → xW}
theorem zsd_calling {D : xD} {f : Nat → Nat} {A : Nat → Prop} {U : State} (g : JFrame) (mk : MethodId) (a : Array Value) (z : ZSd D f A U) : ZSd D f A (U.calling g mk a) := ⟨va_Z.moved (u := U) (U := U.calling g mk a) (Vm.Alike.refl U.vm) z.1, va_Z.moved (u := U) (U := U.calling g mk a) (Vm.Alike.refl U.vm) z.2.1, ⟨z.2.2.1.1, z.2.2.1.2.1, va_X.moved (u := U) (U := U.calling g mk a) (Vm.Alike.refl U.vm) z.2.2.1.2.2⟩, ⟨z.2.2.2.1, z.2.2.2.2.1, va_X.moved (u := U) (U := U.calling g mk a) (Vm.Alike.refl U.vm) z.2.2.2.2.2⟩⟩
theorem blind_Z {av : List Value} {D : xD} {ad : Nat → Nat} {sz : Nat} {w : xW} {A : Nat → Prop} : FrameBlind (va_Pc av (fun U => xPre D ad sz w U ∧ ZSd D ad A U)) := fun a U g mk q => ⟨q.1, ⟨q.2.1.1, q.2.1.2.1, q.2.1.2.2.1.calling g mk a, q.2.1.2.2.2⟩, ⟨va_Z.moved (u := U) (U := U.calling g mk a) (Vm.Alike.refl U.vm) q.2.2.1, va_Z.moved (u := U) (U := U.calling g mk a) (Vm.Alike.refl U.vm) q.2.2.2.1, ⟨q.2.2.2.2.1.1, q.2.2.2.2.1.2.1, va_X.moved (u := U) (U := U.calling g mk a) (Vm.Alike.refl U.vm) q.2.2.2.2.1.2.2⟩, ⟨q.2.2.2.2.2.1, q.2.2.2.2.2.2.1, va_X.moved (u := U) (U := U.calling g mk a) (Vm.Alike.refl U.vm) q.2.2.2.2.2.2.2⟩⟩⟩
theorem va_Z_sub {C n d : String} {v : Value} {A B : Nat → Prop} {s U : State} {H : Heap} {locs : List Loc} (hS : va_S A s.heap H locs) (hAB : ∀ q, B q → A q) (hvm : s.vm.Alike U.vm) (h : va_Z C n d v A s s.heap) : va_Z C n d v B U H := by
  obtain ⟨cf, kf, fi, f, a, cell, h1, h2, h3, h4, h5, h6, h7, h8⟩ := h
  refine va_Z.moved hvm ⟨cf, kf, fi, f, a, cell, h1, h2, h3, h4, ?_, h6, h7, fun q => h8 (hAB _ q)⟩
  rw [hS.2.1 a (Array.getElem?_eq_some_iff.mp h5).1 h8]
  exact h5
theorem zsd_sub {D : xD} {f : Nat → Nat} {A B : Nat → Prop} {s U : State} {H : Heap} {locs : List Loc} (hS : va_S A s.heap H locs) (hAB : ∀ q, B q → A q) (hvm : s.vm.Alike U.vm) (hU : U.heap = H) (z : ZSd D f A s) : ZSd D f B U := by
  obtain ⟨z1, z2, z3, z4⟩ := z
  refine ⟨?_, ?_, ⟨?_, ?_, ?_⟩, ⟨?_, ?_, ?_⟩⟩
  · rw [hU]; exact va_Z_sub hS hAB hvm z1
  · rw [hU]; exact va_Z_sub hS hAB hvm z2
  · exact fun q => z3.1 (hAB _ q)
  · rw [hU]; exact Nat.lt_of_lt_of_le z3.2.1 hS.1
  · rw [hU]; exact (va_X.moved hvm z3.2.2).kept (hS.2.1 _ z3.2.1 z3.1)
  · exact fun q => z4.1 (hAB _ q)
  · rw [hU]; exact Nat.lt_of_lt_of_le z4.2.1 hS.1
  · rw [hU]; exact (va_X.moved hvm z4.2.2).kept (hS.2.1 _ z4.2.1 z4.1)
def ZSb (b : Nat) (E : En) : Prop := match E with
  | (p, l, e, R, s, m, args, below, meth, c, Qc, Q, cs, A, nL, D, ad) => ZSd D (fun i => ad (b + i)) A s
theorem ok_callZ (F : Fx E own cc maxL d) {b : Nat} (Z : ZSb b E) {ix n : Nat} {y : MethodName} {ycc : ByteArray} {ymL dy : Nat} {yret : Option FieldType} {g : σ → τ} {f : σ → τ → σ} (hln : Lens toW toT b g f) (hrc : rcvOk toT y.cls) (hck : cokV own ix y ycc ymL yret n = true) (hdd : dy + 1 ≤ d) (hd : decode cc pc = .ok (.invokevirtual ix, 3)) (hpc : pc + 3 < 100000) : OpOk E toW pc (O_callZ n b y ycc ymL yret dy toT g f) := by
  refine OpOk.mk (by omega) fun {p l e R s m args below meth c Qc Q cs A nL D ad} hE K L st S ho hk H locs hP hap hS hL hn ls hl => ?_
  subst hE
  unfold O_callZ at ho
  split at ho
  · rename_i k r hst
    obtain ⟨rfl, hr4, hints, rv, P', ⟨hlen, hM⟩, hK⟩ := ho
    obtain ⟨w1, w2, hb, hw, hw'⟩ := hln S P'
    have hEm := Emb.block (w2 := w2) hb hlen
    rw [← hw, ← hw'] at hEm
    obtain ⟨h1, h2, h3, h4, h5, h6, h7, h8, h9, h10, h11, h12, h13⟩ := id F
    simp only [cokV, Bool.and_eq_true, decide_eq_true_eq] at hck
    obtain ⟨hws, hd1, hd2, hd3, hd4⟩ := hck
    have hz := fun w (hh : w ∈ _) => wsHas_mem hws hh
    have hlt : n ≤ st.length := by
      rcases Nat.lt_or_ge st.length n with q | q
      · rw [List.drop_eq_nil_of_le (by omega)] at hst; cases hst
      · exact q
    have hsplit : st = st.take n ++ .ref k :: r := by rw [← hst, List.take_append_drop]
    obtain ⟨ci, fs, T, N, hr0, hrc0⟩ := hrc (g S)
    have hrcell := hEm.2.2.2.1 0 _ hr0
    have hAA := emb_A (D := D) (H := H) hEm hap (fun q hq => h9 q (Nat.le_trans hS.1 hq))
    refine x_call (va_runV (y := y) (bytes := ycc) (maxL := ymL) (ret := yret) (n := n) (As := (st.take n).reverse) (rest := r.map (xv ad)) (b := ad k) (C := y.cls) ⟨h1, h2, h3, h5, h6⟩ (hM l D (fun i => ad (k + i)) H.size) (cwV n h6 (ws_GoodIn ?_) rfl rfl rfl ⟨rfl, hd1, hd2, hd3⟩ ⟨?_, ?_⟩) ⟨blind_Z, ?_, fun U hU hW => ⟨?_, ⟨?_, ?_, ?_, ?_⟩, ?_⟩⟩ rfl ?_ (hl.1) ?_ (lv_room (cat_sum8 hr4)) hd ⟨?_, ?_⟩) (fun v st₀ t L1 h0 hf hq => call_after F hEm (r := some (.int rv)) trivial rfl (hk _ _ _ _ hK) hpc hP hap hS hL hn hl h0 hf hq)
    · intro w hw
      simp only [wsV, List.mem_append, List.mem_cons, List.not_mem_nil, or_false] at hw
      rcases hw with (rfl | rfl | rfl | rfl) | rfl | hw
      · exact hz _ (by simp)
      · exact hz _ (by simp)
      · exact hz _ (by simp)
      · exact hz _ (by simp)
      · exact hz _ (by simp)
      · exact hw
    · show dy + 1 ≤ _; omega
    · show 8 + (ymL + 11) + 36 * dy ≤ _; omega
    · exact va_recv (ci := ci) (q0 := k) h8.1 hP hrc0 (by rw [xw_get, show (toW S)[k]? = _ from hrcell]; rfl)
    · show _ = (List.map _ (Value.ref 0 :: (st.take n).reverse)).toArray
      rw [List.map_cons, xint_map (by rw [List.all_reverse]; exact hints)]
      rfl
    · rw [hU]
    · rw [hU]; exact emb_P hEm hP
    · exact h8.warm hW
    · intro i j hi hj hij
      exact hEm.2.2.1 i j hi hj (hap.1 _ _ (by have := (List.getElem?_eq_some_iff.mp (hEm.2.2.2.1 i _ (List.getElem?_eq_getElem hi))).1; exact this) (by have := (List.getElem?_eq_some_iff.mp (hEm.2.2.2.1 j _ (List.getElem?_eq_getElem hj))).1; exact this) hij)
    · exact zsd_sub hS hAA hW.alike hU Z
    · rw [List.length_reverse, List.length_take]; omega
    · show st.map _ = _
      rw [List.reverse_reverse]
      conv => lhs; rw [hsplit]
      rw [List.map_append, xint_map hints]
      rfl
    · omega
    · omega
  · exact ho.elim
end
theorem O_z2 {σ τ : Type} (K : Kt σ) (pc : Nat) (S : σ) (L : xL) (r : List Value) (k b : Nat) (u v : Int32) (y : MethodName) (cc : ByteArray) (maxL : Nat) (ret : Option FieldType) (d : Nat) (toT : τ → xW) (g : σ → τ) (f : σ → τ → σ) : O_callZ 2 b y cc maxL ret d toT g f K pc L (.int u :: .int v :: .ref k :: r) S = (k = b ∧ r.length ≤ 4 ∧ ∃ (x : Int32) (P' : τ), ConS y cc maxL ret d toT [.ref 0, .int v, .int u] (g S) (some (.int x)) P' ∧ K (pc + 3) L (.int x :: r) (f S P')) := by
  apply propext
  constructor
  · rintro ⟨h1, h2, h3, h4⟩
    exact ⟨h1, h2, h4⟩
  · rintro ⟨h1, h2, h4⟩
    exact ⟨h1, h2, rfl, h4⟩

/-! a method of the law's own: it may use the statics and the script -/
def LZd (N : Nat) (xs : Nat → Int32) (D : xD) (ad : Nat → Nat) (A : Nat → Prop) (U : State) : Prop := ZSd D (fun i => ad (0 + i)) A U ∧ ZSd D (fun i => ad (148 + i)) A U ∧ (¬ A (ad 1003) ∧ ad 1003 < U.heap.size ∧ va_X (ad 1003) N xs U U.heap)
def LZ (N : Nat) (xs : Nat → Int32) (E : En) : Prop := ZSb 0 E ∧ ZSb 148 E ∧ Zsc 1003 N xs E
theorem lzd_sub {N : Nat} {xs : Nat → Int32} {D : xD} {f : Nat → Nat} {A B : Nat → Prop} {s U : State} {H : Heap} {locs : List Loc} (hS : va_S A s.heap H locs) (hAB : ∀ q, B q → A q) (hvm : s.vm.Alike U.vm) (hU : U.heap = H) (z : LZd N xs D f A s) : LZd N xs D f B U := by
  refine ⟨zsd_sub hS hAB hvm hU z.1, zsd_sub hS hAB hvm hU z.2.1, ?_, ?_, ?_⟩
  · exact fun q => z.2.2.1 (hAB _ q)
  · rw [hU]; exact Nat.lt_of_lt_of_le z.2.2.2.1 hS.1
  · rw [hU]; exact (va_X.moved hvm z.2.2.2.2).kept (hS.2.1 _ z.2.2.2.1 z.2.2.1)
theorem lzd_calling {N : Nat} {xs : Nat → Int32} {D : xD} {f : Nat → Nat} {A : Nat → Prop} {U : State} (g : JFrame) (mk : MethodId) (a : Array Value) (z : LZd N xs D f A U) : LZd N xs D f A (U.calling g mk a) := ⟨zsd_calling g mk a z.1, zsd_calling g mk a z.2.1, z.2.2.1, z.2.2.2.1, va_X.moved (u := U) (U := U.calling g mk a) (Vm.Alike.refl U.vm) z.2.2.2.2⟩
def ConT {τ : Type} (N : Nat) (xs : Nat → Int32) (y : MethodName) (cc : ByteArray) (maxL : Nat) (ret : Option FieldType) (d : Nat) (toW : τ → xW) (av : List Value) (P : τ) (r : Option Value) (P' : τ) : Prop :=
  (toW P').length = (toW P).length ∧ ∀ (l : Launch) (D : xD) (ad : Nat → Nat) (sz : Nat), Met l y (.code y cc maxL ret :: WS) (rmd d) (va_Pc (av.map (xv ad)) (fun U => xPre D ad sz (toW P) U ∧ LZd N xs D ad (va_A (xw D ad (toW P)) sz) U)) (xQ D ad (toW P) (toW P') sz r) 0 0 (va_A (xw D ad (toW P)) sz)
theorem ConT.of {τ : Type} {N : Nat} {xs : Nat → Int32} {y : MethodName} {cc : ByteArray} {maxL d : Nat} {ret : Option FieldType} {toW : τ → xW} {av : List Value} {P P' : τ} {r : Option Value}
    (hy : plainName y.cls = true) (hlen : (toW P').length = (toW P).length) (hpl : av.all xplain = true) (hm : (xargs av).length ≤ maxL)
    (body : ∀ E : En, Fx E y.cls cc maxL d → Fr E ret → LZ N xs E → Gd E toW 100000 [] r.toList P' → Gd E toW 0 (xarg av maxL) [] P) : ConT N xs y cc maxL ret d toW av P r P' := by
  refine ⟨hlen, fun l D ad sz => ?_⟩
  have hpl' : ∀ v ∈ av, xplain v = true := fun v hv => List.all_eq_true.mp hpl v hv
  refine Met.ofW (cc := cc) (maxL := maxL) (ret := ret) hy rfl ?_
  intro p e s m args below meth c s₁ B hml hv
  obtain ⟨rfl, ⟨hsz, hP, hK, hap⟩, hZ⟩ := hv
  have hts := atoms_spec (ws := .code y cc maxL ret :: WS) B.pre
  have hown : s.vm.findClass y.cls = some m.cls := findClass_of_methodNamed B.named
  subst hsz
  have hF : Fx (p, l, e, (headSpec (.code y cc maxL ret :: WS) (rmd d)).room, s, m, (av.map (xv ad)).toArray, below, meth, c, xQ D ad (toW P) (toW P') s.heap.size r, MQ below (xQ D ad (toW P) (toW P') s.heap.size r) (av.map (xv ad)).toArray s 0 0 (va_A (xw D ad (toW P)) s.heap.size), (0, 0), va_A (xw D ad (toW P)) s.heap.size, maxL, D, ad) y.cls cc maxL d :=
    ⟨B.exec, B.bytes, hml, rfl, hown, fun w hw => hts w (List.mem_cons_of_mem _ hw), B.notSynchronized, hK, fun q hq => Or.inr hq, Nat.zero_le _, Nat.zero_le _, Nat.le_refl _, Nat.le_refl _⟩
  have hxap : xap (va_A (xw D ad (toW P)) s.heap.size) ad (toW P).length := ⟨hap, fun i hi => by
    obtain ⟨c, hc⟩ : ∃ c, (toW P)[i]? = some c := ⟨_, List.getElem?_eq_getElem hi⟩
    exact Or.inl ⟨i, xc D ad c, by rw [xw_get, hc]; rfl⟩⟩
  have h := body _ hF ⟨B.returns, rfl⟩ hZ (fun H locs hP' _ hS => ⟨fun _ t ht _ => ⟨by cases r <;> rfl, by rw [ht]; exact hP', hS.F ht⟩, fun q => absurd rfl q⟩)
  have hl := lv_entry (av.map (xv ad)) (n := maxL) (by rw [xargs_len ad av hpl']; exact hm)
  rw [lg_entry_eq]
  refine (h s.heap [] hP hxap va_S.rf).2 (by decide) (by simp [xarg]; omega) (xno_args av hpl' _) _ ?_
  rw [show lvp ad 0 (xarg av maxL) = lv_args 0 (av.map (xv ad)) by rw [xarg, lvp_app, lvp_none, List.append_nil, lvp_args ad av 0 hpl']]
  exact hl
def O_callT {τ : Type} (N : Nat) (xs : Nat → Int32) (n : Nat) (y : MethodName) (cc : ByteArray) (maxL : Nat) (ret : Option FieldType) (d : Nat) (toW : τ → xW) : Op τ := fun K pc L st S => n ≤ st.length ∧ (st.drop n).length ≤ 4 ∧ ∃ (x : Int32) (S' : τ), ConT N xs y cc maxL ret d toW (st.take n).reverse S (some (.int x)) S' ∧ K (pc + 3) L (.int x :: st.drop n) S'
theorem O_t_eq : (∀ {τ : Type} (N : Nat) (xs : Nat → Int32) (y : MethodName) (cc : ByteArray) (maxL : Nat) (ret : Option FieldType) (d : Nat) (toW : τ → xW) (K : Kt τ) (pc : Nat) (L : xL) (a : Value) (r : List Value) (S : τ), O_callT N xs 1 y cc maxL ret d toW K pc L (a :: r) S = (r.length ≤ 4 ∧ ∃ (x : Int32) (S' : τ), ConT N xs y cc maxL ret d toW [a] S (some (.int x)) S' ∧ K (pc + 3) L (.int x :: r) S')) ∧
  (∀ {τ : Type} (N : Nat) (xs : Nat → Int32) (y : MethodName) (cc : ByteArray) (maxL : Nat) (ret : Option FieldType) (d : Nat) (toW : τ → xW) (K : Kt τ) (pc : Nat) (L : xL) (a b : Value) (r : List Value) (S : τ), O_callT N xs 2 y cc maxL ret d toW K pc L (b :: a :: r) S = (r.length ≤ 4 ∧ ∃ (x : Int32) (S' : τ), ConT N xs y cc maxL ret d toW [a, b] S (some (.int x)) S' ∧ K (pc + 3) L (.int x :: r) S')) ∧
  (∀ {τ : Type} (N : Nat) (xs : Nat → Int32) (y : MethodName) (cc : ByteArray) (maxL : Nat) (ret : Option FieldType) (d : Nat) (toW : τ → xW) (K : Kt τ) (pc : Nat) (L : xL) (a b c : Value) (r : List Value) (S : τ), O_callT N xs 3 y cc maxL ret d toW K pc L (c :: b :: a :: r) S = (r.length ≤ 4 ∧ ∃ (x : Int32) (S' : τ), ConT N xs y cc maxL ret d toW [a, b, c] S (some (.int x)) S' ∧ K (pc + 3) L (.int x :: r) S')) := by
  refine ⟨?_, ?_, ?_⟩ <;> intros <;> apply propext <;> exact ⟨fun h => ⟨h.2.1, h.2.2⟩, fun h => ⟨by simp, h.1, h.2⟩⟩
theorem blind_T {av : List Value} {N : Nat} {xs : Nat → Int32} {D : xD} {ad : Nat → Nat} {sz : Nat} {w : xW} {A : Nat → Prop} : FrameBlind (va_Pc av (fun U => xPre D ad sz w U ∧ LZd N xs D ad A U)) := fun a U g mk q => ⟨q.1, ⟨q.2.1.1, q.2.1.2.1, q.2.1.2.2.1.calling g mk a, q.2.1.2.2.2⟩, lzd_calling g mk a q.2.2⟩
theorem xcr_same : ∀ c : xCell, xcr (fun i => i) c = c
  | .inl a => rfl
  | .inr (.inl (ci, fs)) => by
    have h : fs.map (xrn (fun i => i)) = fs := by
      refine (List.map_congr_left fun v _ => ?_).trans (List.map_id fs)
      cases v <;> rfl
    show Sum.inr (Sum.inl (ci, fs.map (xrn (fun i => i)))) = _
    rw [h]
  | .inr (.inr (n, f)) => by
    show Sum.inr (Sum.inr (n, fun j => (f j).map (fun i => i))) = _
    congr 3
    funext j
    cases f j <;> rfl
theorem Emb.same {w w' : xW} (h : w'.length = w.length) : Emb (fun i => i) w w' w w' := ⟨h, h, fun i j _ _ e => e, fun i c hc => by rw [xcr_same]; exact hc, fun i c hc => by rw [xcr_same]; exact hc, fun j c hc => Or.inl ⟨j, by rw [← h]; exact (List.getElem?_eq_some_iff.mp hc).1, rfl⟩⟩
theorem ok_callT {σ : Type} {E : En} {own : String} {cc : ByteArray} {maxL d pc : Nat} {toW : σ → xW} {N : Nat} {xs : Nat → Int32} (F : Fx E own cc maxL d) (Z : LZ N xs E) {ix n : Nat} {y : MethodName} {ycc : ByteArray} {ymL dy : Nat} {yret : Option FieldType} (hck : cokS own ix y ycc ymL yret n = true) (hyo : y.cls = own) (hdd : dy + 1 ≤ d) (hd : decode cc pc = .ok (.invokestatic ix, 3)) (hpc : pc + 3 < 100000) : OpOk E toW pc (O_callT N xs n y ycc ymL yret dy toW) := by
  refine OpOk.mk (by omega) fun {p l e R s m args below meth c Qc Q cs A nL D ad} hE K L st S ho hk H locs hP hap hS hL hn ls hl => ?_
  subst hE
  obtain ⟨hlt, hr4, rv, S', ⟨hlen, hM⟩, hK⟩ := ho
  have hEm : Emb (fun i => i) (toW S) (toW S') (toW S) (toW S') := Emb.same hlen
  have hAA := emb_A (D := D) (H := H) hEm hap (fun q hq => F.2.2.2.2.2.2.2.2.1 q (Nat.le_trans hS.1 hq))
  obtain ⟨h1, h2, h3, h4, h5, h6, h7, h8, h9, h10, h11, h12, h13⟩ := id F
  simp only [cokS, Bool.and_eq_true, decide_eq_true_eq] at hck
  obtain ⟨hws, hd1, hd2, hd3, hd4⟩ := hck
  have hz := fun w (hh : w ∈ _) => wsHas_mem hws hh
  refine x_call (va_runS (y := y) (bytes := ycc) (maxL := ymL) (ret := yret) (n := n) (As := (st.take n).reverse.map (xv ad)) (rest := (st.drop n).map (xv ad)) ⟨h1, h2, h3, h5, h6⟩ (hM l D (fun i => ad i) H.size) (cwS n h6 (ws_GoodIn ?_) rfl rfl rfl ⟨hyo, hd1, hd2, hd3⟩ ⟨?_, ?_⟩) ⟨blind_T, fun U hU hW => ⟨?_, ⟨?_, ?_, ?_, ?_⟩, ?_⟩⟩ rfl ?_ (hl.1) ?_ (lv_room (cat_sum8 hr4)) hd ⟨?_, ?_⟩) (fun v st₀ t L1 h0 hf hq => call_after F hEm (r := some (.int rv)) trivial rfl (hk _ _ _ _ hK) hpc hP hap hS hL hn hl h0 hf hq)
  · intro w hw
    simp only [wsS, List.mem_append, List.mem_cons, List.not_mem_nil, or_false] at hw
    rcases hw with (rfl | rfl | rfl) | rfl | hw
    · exact hz _ (by simp)
    · exact hz _ (by simp)
    · rw [← hyo]; exact hz _ (by simp)
    · exact hz _ (by simp)
    · exact hw
  · show dy + 1 ≤ _; omega
  · show 8 + (ymL + 11) + 36 * dy ≤ _; omega
  · rfl
  · rw [hU]
  · rw [hU]; exact hP
  · exact h8.warm hW
  · exact fun i j hi hj hij => hap.1 i j hi hj hij
  · exact lzd_sub hS hAA hW.alike hU Z
  · rw [List.length_map, List.length_reverse, List.length_take]; omega
  · show st.map _ = _
    rw [← List.map_reverse, List.reverse_reverse, ← List.map_append, List.take_append_drop]
  · omega
  · omega
/-! what the walks' conditions come to -/
def up (v n : Int32) : Int32 := (v &&& 2147483647) - (v &&& 2147483647) / n * n
def upN (v : Int32) (d : Nat) : Nat := v.toBitVec.toNat % 2 ^ 31 % d
theorem up_nI (v : Int32) {d : Nat} (h0 : 0 < d) (hd : d < 2 ^ 31) : up v (nI d) = nI (upN v d) := by
  unfold up upN
  rw [pk_and v 31 (by decide), pk_rem (Nat.mod_lt _ (by decide)) h0 hd]
theorem upN_lt (v : Int32) {d : Nat} (h0 : 0 < d) : upN v d < d := Nat.mod_lt _ h0
theorem l_eq : (((0 : Int32) = 0) = True) ∧ (((0 : Int32) = 1) = False) ∧ (((0 : Int32) = 2) = False) ∧ (((0 : Int32) = 3) = False) ∧ (((0 : Int32) = 4) = False) ∧ (((0 : Int32) = 5) = False) ∧ (((0 : Int32) = 6) = False) ∧ (((1 : Int32) = 0) = False) ∧ (((1 : Int32) = 1) = True) ∧ (((1 : Int32) = 2) = False) ∧ (((1 : Int32) = 3) = False) ∧ (((1 : Int32) = 4) = False) ∧ (((1 : Int32) = 5) = False) ∧ (((1 : Int32) = 6) = False) ∧ (((2 : Int32) = 0) = False) ∧ (((2 : Int32) = 1) = False) ∧ (((2 : Int32) = 2) = True) ∧ (((2 : Int32) = 3) = False) ∧ (((2 : Int32) = 4) = False) ∧ (((2 : Int32) = 5) = False) ∧ (((2 : Int32) = 6) = False) ∧ (((3 : Int32) = 0) = False) ∧ (((3 : Int32) = 1) = False) ∧ (((3 : Int32) = 2) = False) ∧ (((3 : Int32) = 3) = True) ∧ (((3 : Int32) = 4) = False) ∧ (((3 : Int32) = 5) = False) ∧ (((3 : Int32) = 6) = False) ∧ (((4 : Int32) = 0) = False) ∧ (((4 : Int32) = 1) = False) ∧ (((4 : Int32) = 2) = False) ∧ (((4 : Int32) = 3) = False) ∧ (((4 : Int32) = 4) = True) ∧ (((4 : Int32) = 5) = False) ∧ (((4 : Int32) = 6) = False) ∧ (((5 : Int32) = 0) = False) ∧ (((5 : Int32) = 1) = False) ∧ (((5 : Int32) = 2) = False) ∧ (((5 : Int32) = 3) = False) ∧ (((5 : Int32) = 4) = False) ∧ (((5 : Int32) = 5) = True) ∧ (((5 : Int32) = 6) = False) ∧ (((6 : Int32) = 0) = False) ∧ (((6 : Int32) = 1) = False) ∧ (((6 : Int32) = 2) = False) ∧ (((6 : Int32) = 3) = False) ∧ (((6 : Int32) = 4) = False) ∧ (((6 : Int32) = 5) = False) ∧ (((6 : Int32) = 6) = True) ∧ (((9 : Int32) = 0) = False) ∧ (((200 : Int32) = 0) = False) ∧ (((20001 : Int32) = 0) = False) ∧ (((10 : Int32) = 0) = False) ∧ (((500 : Int32) = 0) = False) ∧ (((600 : Int32) = 0) = False) ∧ (((50 : Int32) = 0) = False) ∧ (((900 : Int32) = 0) = False) ∧ (((80 : Int32) = 0) = False) ∧ (((400 : Int32) = 0) = False) ∧ (((60 : Int32) = 0) = False) := by
  repeat' apply And.intro
  all_goals first | exact propext ⟨fun _ => trivial, fun _ => rfl⟩ | exact propext ⟨fun h => absurd h (by decide), fun h => h.elim⟩
theorem l_lt : (((0 : Int32) < 0) = False) ∧ (((0 : Int32) < 1) = True) ∧ (((0 : Int32) < 2) = True) ∧ (((0 : Int32) < 3) = True) ∧ (((1 : Int32) < 0) = False) ∧ (((1 : Int32) < 1) = False) ∧ (((1 : Int32) < 2) = True) ∧ (((1 : Int32) < 3) = True) ∧ (((2 : Int32) < 0) = False) ∧ (((2 : Int32) < 1) = False) ∧ (((2 : Int32) < 2) = False) ∧ (((2 : Int32) < 3) = True) ∧ (((3 : Int32) < 0) = False) ∧ (((3 : Int32) < 1) = False) ∧ (((3 : Int32) < 2) = False) ∧ (((3 : Int32) < 3) = False) := by
  repeat' apply And.intro
  all_goals first | exact propext ⟨fun _ => trivial, fun _ => by decide⟩ | exact propext ⟨fun h => absurd h (by decide), fun h => h.elim⟩
theorem z_eq : narrow .boolean (.int 1) = .int 1 ∧ narrow .boolean (.int 0) = .int 0 := ⟨rfl, rfl⟩
