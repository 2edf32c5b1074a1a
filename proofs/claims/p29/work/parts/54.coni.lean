/-! ===== a constructor's contract ===== -/
def newA (a sz : Nat) : Nat → Prop := fun q => q = a ∨ sz ≤ q
/-- on a blank object c0 at a, in a heap of sz cells: it makes k.1 cells of k.2 slots and leaves the world w1, its first cell at a -/
def ConI (y : MethodName) (cc : ByteArray) (maxL d : Nat) (k : Nat × Nat) (c0 : xCell) (w1 : xW) : Prop := ∀ (l : Launch) (D : xD) (a sz : Nat), a < sz → Met l y (.code y cc maxL none :: WS) { frames := d, cells := k.1, slots := k.2, locals := 36 * d } (va_Pc [.ref a] (fun U => U.heap.size = sz ∧ va_P (D.1, D.2.1) classes (xw D (fun _ => a) [c0]) U.heap ∧ xKn D U)) (fun _ st oc t => oc = .returned none ∧ va_F (newA a sz) st t ∧ ∃ ad : Nat → Nat, ad 0 = a ∧ va_P (D.1, D.2.1) classes (xw D ad w1) t.heap ∧ xap (newA a sz) ad w1.length) k.1 k.2 (newA a sz)
def rmAll (E : En) (k : Nat × Nat) : Prop := ∀ n : Nat × Nat, n.1 ≤ k.1 → n.2 ≤ k.2 → rmOk E n
theorem ConI.of {y : MethodName} {cc : ByteArray} {maxL d : Nat} {k : Nat × Nat} {c0 : xCell} {w1 : xW} (hy : plainName y.cls = true) (hi : y.name = "<init>") (hm : 1 ≤ maxL) (hc0 : cok 0 c0)
    (body : ∀ E : En, Fx E y.cls cc maxL d → Fr E none → inIt E → csIs E k → rmAll E k → GiEnd E w1 → Gi E (0, 0) 0 (xarg [.ref 0] maxL) [] [c0]) : ConI y cc maxL d k c0 w1 := by
  intro l D a sz ha
  refine Met.ofW (cc := cc) (maxL := maxL) (ret := none) hy rfl ?_
  intro p e s m args below meth c s₁ B hml hv
  obtain ⟨rfl, hsz, hP, hK⟩ := hv
  have hts := atoms_spec (ws := .code y cc maxL none :: WS) B.pre
  have hown : s.vm.findClass y.cls = some m.cls := findClass_of_methodNamed B.named
  have hin : meth.name = "<init>" := (name_of_methodNamed B.named B.method).1.trans hi
  subst hsz
  have hF : Fx (p, l, e, (headSpec (.code y cc maxL none :: WS) { frames := d, cells := k.1, slots := k.2, locals := 36 * d }).room, s, m, ([.ref a] : List Value).toArray, below, meth, c, (fun _ st oc t => oc = .returned none ∧ va_F (newA a s.heap.size) st t ∧ ∃ ad : Nat → Nat, ad 0 = a ∧ va_P (D.1, D.2.1) classes (xw D ad w1) t.heap ∧ xap (newA a s.heap.size) ad w1.length), MQ below (fun _ st oc t => oc = .returned none ∧ va_F (newA a s.heap.size) st t ∧ ∃ ad : Nat → Nat, ad 0 = a ∧ va_P (D.1, D.2.1) classes (xw D ad w1) t.heap ∧ xap (newA a s.heap.size) ad w1.length) ([.ref a] : List Value).toArray s k.1 k.2 (newA a s.heap.size), k, newA a s.heap.size, maxL, D, (fun _ => a)) y.cls cc maxL d :=
    ⟨B.exec, B.bytes, hml, rfl, hown, fun w hw => hts w (List.mem_cons_of_mem _ hw), B.notSynchronized, hK, fun q hq => Or.inr hq, Nat.le_refl _, Nat.le_refl _, Nat.le_refl _, Nat.le_refl _⟩
  have h := body _ hF ⟨B.returns, rfl⟩ hin rfl (fun n h1 h2 => ⟨h1, h2⟩) (fun ad H locs h0 hP' hap hS t ht _ => ⟨rfl, hS.F ht, ad, h0, by rw [ht]; exact hP', hap⟩)
  have hl := lv_entry ([.ref a] : List Value) (n := maxL) (by simpa [lg_sl, Value.category] using hm)
  rw [lg_entry_eq]
  refine h (fun _ => a) s.heap [] rfl hP ⟨fun i j hi hj _ => ?_, fun i _ => Or.inl rfl⟩ va_S.rf (by simp [xarg, xargs]; omega) (xno_args [.ref 0] (by simp [xplain]) _) _ ?_
  · have h1 : i < 1 := hi
    have h2 : j < 1 := hj
    omega
  · rw [show lvp (fun _ => a) 0 (xarg [.ref 0] maxL) = lv_args 0 ([.ref a] : List Value) by rw [xarg, lvp_app, lvp_none, List.append_nil]; rfl]
    exact hl
