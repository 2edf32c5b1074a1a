/-! ===== constructors: numbers, fields, the end ===== -/
def inIt (E : En) : Prop := match E with
  | (p, l, e, R, s, m, args, below, meth, c, Qc, Q, cs, A, nL, D, ad0) => meth.name = "<init>"
def csIs (E : En) (n : Nat × Nat) : Prop := match E with
  | (p, l, e, R, s, m, args, below, meth, c, Qc, Q, cs, A, nL, D, ad0) => cs = n
/-- the contract's end holds in every heap that has the world w -/
def GiEnd (E : En) (w : xW) : Prop := match E with
  | (p, l, e, R, s, m, args, below, meth, c, Qc, Q, cs, A, nL, D, ad0) => ∀ (ad : Nat → Nat) (H : Heap) (locs : List Loc), ad 0 = ad0 0 → va_P (D.1, D.2.1) classes (xw D ad w) H → xap A ad w.length → va_S A s.heap H locs → ∀ t : State, t.heap = H → s.WarmedH t.vm → Qc args s (.returned none) t
section
variable {E : En} {own : String} {cc : ByteArray} {maxL d pc : Nat} {n : Nat × Nat} {L : xL} {st : List Value} {w : xW}
theorem gi_bipush (F : Fx E own cc maxL d) {k : Int} {v : Int32} (hd : decode cc pc = .ok (.bipush k, 2)) (hv : (Int8.ofInt k).toInt32 = v) (kk : Gi E n (pc + 2) L (.int v :: st) w) : Gi E n pc L st w := by
  obtain ⟨p, l, e, R, s, m, args, below, meth, c, Qc, Q, cs, A, nL, D, ad0⟩ := E
  intro ad H locs h0 hP hap hS hL hn ls hl
  exact lv_bipush F.1 F.2.1 hd hv (kk ad H locs h0 hP hap hS hL hn ls hl)
theorem gi_sipush (F : Fx E own cc maxL d) {k : Int} {v : Int32} (hd : decode cc pc = .ok (.sipush k, 3)) (hv : (Int16.ofInt k).toInt32 = v) (kk : Gi E n (pc + 3) L (.int v :: st) w) : Gi E n pc L st w := by
  obtain ⟨p, l, e, R, s, m, args, below, meth, c, Qc, Q, cs, A, nL, D, ad0⟩ := E
  intro ad H locs h0 hP hap hS hL hn ls hl
  exact lv_sipush F.1 F.2.1 hd hv (kk ad H locs h0 hP hap hS hL hn ls hl)
theorem gi_obj (F : Fx E own cc maxL d) {ix j : Nat} (hw : wsHas [.methodLink own ix Lib.objectInit, .instanceMethod Lib.objectInit, .code Lib.objectInit ⟨#[0xb1]⟩ 1 none] = true) (hd : decode cc pc = .ok (.invokespecial ix, 3)) (hst : st.length ≤ 4) (h1 : 1 ≤ d) (kk : Gi E n (pc + 3) L st w) : Gi E n pc L (.ref j :: st) w := by
  obtain ⟨p, l, e, R, s, m, args, below, meth, c, Qc, Q, cs, A, nL, D, ad0⟩ := E
  obtain ⟨f1, f2, f3, f4, f5, f6, f7, f8, f9, f10, f11, f12, f13⟩ := id F
  intro ad H locs h0 hP hap hS hL hn ls hl
  have hz := fun x (hh : x ∈ _) => f6 x (wsHas_mem hw hh)
  refine W.objInit f1 f2 f5 (hz _ (by simp)) (hz _ (by simp)) (hz _ (by simp)) rfl (by rw [f3]; exact hl.1) rfl hd (by omega) ?_ ?_
  · have := cat_sum ad st
    show 2 * 0 + _ + 12 ≤ _
    omega
  · exact kk ad H locs h0 hP hap hS hL hn ls hl
theorem gi_putF (F : Fx E own cc maxL d) (hin : inIt E) {ix ci slot k : Nat} {v : Value} {fs : List Value} (hg : w[k]? = some (.inr (.inl (ci, fs)))) (hsl : slot < fs.length) (hfin : ∀ C T N, classes[ci]? = some (C, T, N) → (T slot).2.2.2 = true ∧ (T slot).1 = own) (hn1 : ∀ ad, narrow (tyOf ci slot) (xv ad v) = xv ad v) (hn2 : ∀ ad, fits (tyOf ci slot) (xv ad v) = true) (hf : fldOk own ix ci slot = true) (hd : decode cc pc = .ok (.putfield ix, 3)) (kk : Gi E n (pc + 3) L st (w.set k (.inr (.inl (ci, fs.set slot v))))) : Gi E n pc L (v :: .ref k :: st) w := by
  obtain ⟨p, l, e, R, s, m, args, below, meth, c, Qc, Q, cs, A, nL, D, ad0⟩ := E
  intro ad H locs h0 hP hap hS hL hn ls hl
  obtain ⟨C, T, N, hc, hs, hw⟩ := fldOk_spec hf
  obtain ⟨c1, c2, c3⟩ := xcls hc
  have hw1 : xw D ad (w.set k (.inr (.inl (ci, fs.set slot v)))) = (xw D ad w).set k (ad k, .inr (ci, (fs.map (xv ad)).set slot (xv ad v))) := by
    rw [xw_set]
    simp [xc, List.map_set]
  refine va_putF (D := (D.1, D.2.1)) (C := C) (T := T) (N := N) (ci := ci) (fs := fs.map (xv ad)) (v := xv ad v) F.1 F.2.1 F.2.2.2.2.2.1 c1 (tyOf ci) c2 c3 F.2.2.2.2.1 F.2.2.2.2.2.2.2.1.1 hP (xap_D D hap) hS k (by rw [xw_get, hg]; rfl) hc slot hs (F.2.2.2.2.2.1 _ hw) (fun _ h9 => h9) (hfin _ _ _ hc).1 hin (hfin _ _ _ hc).2 (c2 slot hs) (hn1 ad) (hn2 ad) (by simpa using hsl) hd (fun H1 locs1 hP1 hD1 hS1 => ?_)
  rw [← hw1] at hP1
  exact kk ad H1 locs1 h0 hP1 (xap_len hap (by simp)) hS1 hL hn ls hl
theorem gi_putV (F : Fx E own cc maxL d) {ix ci slot k : Nat} {v : Value} {fs : List Value} (hg : w[k]? = some (.inr (.inl (ci, fs)))) (hsl : slot < fs.length) (hfin : ∀ C T N, classes[ci]? = some (C, T, N) → (T slot).2.2.2 = false) (hn1 : ∀ ad, narrow (tyOf ci slot) (xv ad v) = xv ad v) (hn2 : ∀ ad, fits (tyOf ci slot) (xv ad v) = true) (hf : fldOk own ix ci slot = true) (hd : decode cc pc = .ok (.putfield ix, 3)) (kk : Gi E n (pc + 3) L st (w.set k (.inr (.inl (ci, fs.set slot v))))) : Gi E n pc L (v :: .ref k :: st) w := by
  obtain ⟨p, l, e, R, s, m, args, below, meth, c, Qc, Q, cs, A, nL, D, ad0⟩ := E
  intro ad H locs h0 hP hap hS hL hn ls hl
  obtain ⟨C, T, N, hc, hs, hw⟩ := fldOk_spec hf
  obtain ⟨c1, c2, c3⟩ := xcls hc
  have hw1 : xw D ad (w.set k (.inr (.inl (ci, fs.set slot v)))) = (xw D ad w).set k (ad k, .inr (ci, (fs.map (xv ad)).set slot (xv ad v))) := by
    rw [xw_set]
    simp [xc, List.map_set]
  refine va_put (D := (D.1, D.2.1)) (C := C) (T := T) (N := N) (ci := ci) (fs := fs.map (xv ad)) (v := xv ad v) F.1 F.2.1 F.2.2.2.2.2.1 c1 (tyOf ci) c2 c3 F.2.2.2.2.1 F.2.2.2.2.2.2.2.1.1 hP (xap_D D hap) hS k (by rw [xw_get, hg]; rfl) hc slot hs (F.2.2.2.2.2.1 _ hw) (fun _ h9 => h9) (hfin _ _ _ hc) (c2 slot hs) (hn1 ad) (hn2 ad) (by simpa using hsl) hd (fun H1 locs1 hP1 hD1 hS1 => ?_)
  rw [← hw1] at hP1
  exact kk ad H1 locs1 h0 hP1 (xap_len hap (by simp)) hS1 hL hn ls hl
theorem gi_vret (F : Fx E own cc maxL d) (G : Fr E none) (hcs : csIs E n) (hd : decode cc pc = .ok (.return_, 1)) (hend : GiEnd E w) : Gi E n pc L [] w := by
  obtain ⟨p, l, e, R, s, m, args, below, meth, c, Qc, Q, cs, A, nL, D, ad0⟩ := E
  obtain ⟨G1, rfl⟩ := id G
  have hcs : cs = n := hcs
  subst hcs
  intro ad H locs h0 hP hap hS hL hn ls hl
  exact W.vret F.1 F.2.1 G1 (fun t ht hW => hend ad H locs h0 hP hap hS t ht hW) hS.2.2 hd (hlocks := F.2.2.2.2.2.2.1)
end
