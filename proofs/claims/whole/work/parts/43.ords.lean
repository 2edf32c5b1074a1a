/-! ===== the orders answer alike ===== -/
def tie (W : MT) (T : OT) : Prop := W.text = T.text ∧ W.textLong = T.length
theorem here_eq {W : MT} {T : OT} (h : tie W T) {b : Nat} (hb : T.behind = nI b) (hw : W.place = nI b) (hb2 : b ≤ 300) (x : Int32) (hx : ¬ x = -1) : (W.here = x) ↔ (T.has T.behind = true ∧ T.text T.behind.toNatClampNeg = x) := by
  have h0 : ¬ T.behind < 0 := by rw [hb]; exact nI_pos (by omega)
  unfold MT.here OT.has
  rw [h.1, h.2, hw, ← hb]
  by_cases c : T.behind < T.length
  · rw [if_pos c]
    simp [h0, c]
  · rw [if_neg c]
    simp only [decide_eq_true_eq, c, and_false, false_and, iff_false]
    exact fun z => hx z.symm
theorem dig_eq {W : MT} {T : OT} (h : tie W T) {b : Nat} (hb : T.behind = nI b) (hw : W.place = nI b) (hb2 : b ≤ 300) : (inR W.here 48 57 = true) ↔ (T.has T.behind = true ∧ isDig (T.text T.behind.toNatClampNeg) = true) := by
  have h0 : ¬ T.behind < 0 := by rw [hb]; exact nI_pos (by omega)
  unfold MT.here OT.has
  rw [h.1, h.2, hw, ← hb]
  by_cases c : T.behind < T.length
  · rw [if_pos c]
    simp only [decide_eq_true_eq, c, h0, not_false_eq_true, and_self, true_and]
    exact Iff.rfl
  · rw [if_neg c]
    simp only [decide_eq_true_eq, c, and_false, false_and, iff_false]
    decide
theorem digs_tie : ∀ (f k b : Nat) (W : MT) (T : OT), tie W T → T.behind = nI b → W.place = nI b → W.number = T.number → b + f ≤ 300 → ∃ j, (OT.digs f k T).1 = k + j ∧ (OT.digs f k T).2.behind = nI (b + j) ∧ (MT.digs7 f W).place = nI (b + j) ∧ (MT.digs7 f W).number = (OT.digs f k T).2.number ∧ tie (MT.digs7 f W) (OT.digs f k T).2
  | 0, k, b, W, T, h, h1, h2, h3, _ => ⟨0, rfl, h1, h2, h3, h⟩
  | f + 1, k, b, W, T, h, h1, h2, h3, h4 => by
    have hd := dig_eq h h1 h2 (by omega)
    unfold OT.digs MT.digs7
    by_cases c : inR W.here 48 57 = true
    · have c2 := hd.mp c
      rw [if_pos c, if_pos c2]
      have hh : W.here = T.text T.behind.toNatClampNeg := by
        unfold MT.here
        have := c2.1
        simp only [OT.has, decide_eq_true_eq] at this
        rw [h.1, h.2, h2, ← h1, if_pos this.2]
      have en : 10 * W.number + W.here - 48 = T.number * 10 + T.text T.behind.toNatClampNeg - 48 := by
        rw [hh, h3, Int32.mul_comm]
      obtain ⟨j, g1, g2, g3, g4, g5⟩ := digs_tie f (k + 1) (b + 1) ((W.sNumber (10 * W.number + W.here - 48)).sPlace (W.place + 1)) ((T.sNumber (T.number * 10 + T.text T.behind.toNatClampNeg - 48)).sBehind (T.behind + 1)) h (by show T.behind + 1 = _; rw [h1, nI_1]) (by show W.place + 1 = _; rw [h2, nI_1]) en (by omega)
      refine ⟨j + 1, by rw [g1]; omega, ?_, ?_, g4, g5⟩
      · rw [g2, show b + 1 + j = b + (j + 1) by omega]
      · rw [g3, show b + 1 + j = b + (j + 1) by omega]
    · rw [if_neg c, if_neg (fun z => c (hd.mpr z))]
      exact ⟨0, rfl, h1, h2, h3, h⟩
theorem let5_L {o : Int32} : let5 o = (decide (o = 111 ∨ o = 99 ∨ o = 115 ∨ o = 112) || decide (o = 114)) := by
  unfold let5
  rw [← Bool.decide_or]
  congr 1
  apply propext
  simp only [or_assoc]
theorem rd_tie {V : MT} {O : OT} (h : tie V O) {p : Nat} (hp : O.place = nI p) (hv : V.place = nI p) (hp2 : p ≤ 100) (hl : O.place < O.length) : V.rdo.1 = O.read.1 ∧ (V.rdo.1 = true → V.rdo.2.order = O.read.2.letter ∧ V.rdo.2.number = O.read.2.number ∧ V.rdo.2.place = O.read.2.behind) := by
  have h0 : ¬ O.place < 0 := by rw [hp]; exact nI_pos (by omega)
  have hh : O.has O.place = true := by simp only [OT.has, decide_eq_true_eq]; exact ⟨h0, hl⟩
  have hhere : V.here = O.text O.place.toNatClampNeg := by
    unfold MT.here
    rw [h.1, h.2, hv, ← hp, if_pos hl]
  have t0 : tie V.rd2 O.rd0 := h
  have b0 : O.rd0.behind = nI (p + 1) := by show O.place + 1 = _; rw [hp, nI_1]
  have w0 : V.rd2.place = nI (p + 1) := by show V.place + 1 = _; rw [hv, nI_1]
  have n0 : V.rd2.number = O.rd0.number := rfl
  obtain ⟨j, g1, g2, g3, g4, g5⟩ := digs_tie 3 0 (p + 1) V.rd2 O.rd0 t0 b0 w0 n0 (by omega)
  have hk := OT.digs_lt 3 0 O.rd0 rfl
  have hlet : (OT.digs 3 0 O.rd0).2.letter = V.here := by rw [(OT.digs_text 3 0 O.rd0).2.2.1, hhere]; rfl
  have er : O.read = (OT.rd1 (OT.digs 3 0 O.rd0).1 (OT.digs 3 0 O.rd0).2, (OT.digs 3 0 O.rd0).2.sBehind ((OT.digs 3 0 O.rd0).2.behind + 1)) := by unfold OT.read; rw [if_neg (by rw [hh]; decide)]
  have hj : j ≤ 3 := by omega
  have hs := here_eq g5 g2 g3 (by omega) 59 (by decide)
  rw [g1] at er
  rw [er]
  generalize hT : (OT.digs 3 0 O.rd0).2 = T at *
  have hr1 : OT.rd1 (0 + j) T = (T.has T.behind && decide (T.text T.behind.toNatClampNeg = 59) && (if j = 0 then decide (V.here = 114) else decide (V.here = 111 ∨ V.here = 99 ∨ V.here = 115 ∨ V.here = 112))) := by
    unfold OT.rd1 OT.isL
    rw [hlet, Nat.zero_add]
  rw [hr1]
  have hb : (T.has T.behind && decide (T.text T.behind.toNatClampNeg = 59)) = decide ((MT.digs7 3 V.rd2).here = 59) := by
    rw [Bool.eq_iff_iff]
    simp only [Bool.and_eq_true, decide_eq_true_eq]
    exact hs.symm
  rw [hb]
  have hrd3a : V.here = 114 → V.rd3 = V.rd2 := fun z => if_pos z
  have hrd3b : ¬ V.here = 114 → V.rd3 = MT.digs7 3 V.rd2 := fun z => if_neg z
  have j0 : j = 0 → MT.digs7 3 V.rd2 = V.rd2 ∨ True := fun _ => Or.inr trivial
  have first : (¬ j = 0) ↔ inR V.rd2.here 48 57 = true := by
    have hd := dig_eq t0 b0 w0 (by omega)
    constructor
    · intro z
      cases c : inR V.rd2.here 48 57 with
      | true => rfl
      | false =>
        exfalso
        apply z
        have : OT.digs 3 0 O.rd0 = (0, O.rd0) := if_neg (fun q => by rw [hd.mpr q] at c; cases c)
        rw [this] at g1
        have : (0 : Nat) = 0 + j := g1
        omega
    · intro z q
      have c2 := hd.mp z
      have e : OT.digs 3 0 O.rd0 = OT.digs 2 (0 + 1) ((O.rd0.sNumber (O.rd0.number * 10 + O.rd0.text O.rd0.behind.toNatClampNeg - 48)).sBehind (O.rd0.behind + 1)) := if_pos c2
      obtain ⟨j', q1, _⟩ := digs_tie 2 (0 + 1) (p + 1 + 1) ((V.rd2.sNumber (10 * V.rd2.number + V.rd2.here - 48)).sPlace (V.rd2.place + 1)) ((O.rd0.sNumber (O.rd0.number * 10 + O.rd0.text O.rd0.behind.toNatClampNeg - 48)).sBehind (O.rd0.behind + 1)) t0 (by show O.rd0.behind + 1 = _; rw [b0, nI_1]) (by show V.rd2.place + 1 = _; rw [w0, nI_1]) (by
        have hh2 : V.rd2.here = O.rd0.text O.rd0.behind.toNatClampNeg := by
          unfold MT.here
          have := c2.1
          simp only [OT.has, decide_eq_true_eq] at this
          rw [t0.1, t0.2, w0, ← b0, if_pos this.2]
        show 10 * V.rd2.number + V.rd2.here - 48 = _
        rw [hh2, n0, Int32.mul_comm]
        rfl) (by omega)
      rw [e] at g1
      omega
  have stay : inR V.rd2.here 48 57 = false → MT.digs7 3 V.rd2 = V.rd2 := fun z => if_neg (by rw [z]; decide)
  by_cases c : let5 V.here = true
  · have e : V.rdo = (decide ((V.here = 114 ∨ V.place + 1 < V.rd3.place) ∧ V.rd3.here = 59), V.rd3.sPlace (V.rd3.place + 1)) := if_neg (by rw [c]; decide)
    rw [e]
    by_cases d : V.here = 114
    · have hnL : ¬ (V.here = 111 ∨ V.here = 99 ∨ V.here = 115 ∨ V.here = 112) := by rw [d]; decide
      rw [hrd3a d]
      by_cases q : j = 0
      · have st := stay (by
          cases z : inR V.rd2.here 48 57 with
          | false => rfl
          | true => exact absurd q (first.mpr z))
        rw [st, if_pos q, decide_eq_true d, Bool.and_true]
        refine ⟨by simp [d], fun _ => ⟨?_, ?_, ?_⟩⟩
        · show V.here = T.letter
          exact hlet.symm
        · show V.rd2.number = T.number
          rw [st] at g4
          exact g4
        · show V.rd2.place + 1 = T.behind + 1
          rw [w0, g2, q]
      · have nd := first.mp q
        rw [if_neg q, decide_eq_false hnL, Bool.and_false]
        have h59 : ¬ V.rd2.here = 59 := fun z => by
          rw [z] at nd
          exact absurd nd (by decide)
        have ef : decide ((V.here = 114 ∨ V.place + 1 < V.rd2.place) ∧ V.rd2.here = 59) = false := decide_eq_false (fun z => h59 z.2)
        refine ⟨ef, fun z => ?_⟩
        rw [ef] at z
        cases z
    · have hL : V.here = 111 ∨ V.here = 99 ∨ V.here = 115 ∨ V.here = 112 := by
        rcases let5_o c with z | z | z | z | z
        · exact Or.inl z
        · exact Or.inr (Or.inl z)
        · exact Or.inr (Or.inr (Or.inl z))
        · exact Or.inr (Or.inr (Or.inr z))
        · exact absurd z d
      rw [hrd3b d, g3]
      have hlt : (V.place + 1 < nI (p + 1 + j)) ↔ ¬ j = 0 := by
        rw [hv, nI_1, nI_ltI (by omega) (by omega)]
        omega
      by_cases q : j = 0
      · rw [if_pos q, decide_eq_false d, Bool.and_false]
        have ef : decide ((V.here = 114 ∨ V.place + 1 < nI (p + 1 + j)) ∧ (MT.digs7 3 V.rd2).here = 59) = false := decide_eq_false (fun z => z.1.elim d (fun z => hlt.mp z q))
        refine ⟨ef, fun z => ?_⟩
        rw [ef] at z
        cases z
      · rw [if_neg q, decide_eq_true hL, Bool.and_true]
        refine ⟨by simp [hlt, q], fun _ => ⟨?_, ?_, ?_⟩⟩
        · show (MT.digs7 3 V.rd2).order = T.letter
          rw [(digs7_keep 3 V.rd2).2.2.1, hlet]
          rfl
        · exact g4
        · show nI (p + 1 + j) + 1 = T.behind + 1
          rw [g2]
  · have c2 := bnot c
    have e : V.rdo = (false, (V.sOrder V.here).sPlace (V.place + 1)) := if_pos c2
    rw [let5_L, Bool.or_eq_false_iff] at c2
    rw [e, c2.2, c2.1]
    refine ⟨?_, fun z => by cases z⟩
    show false = (_ && (if j = 0 then false else false))
    split <;> simp
