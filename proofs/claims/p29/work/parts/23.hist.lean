/-! ===== the history; changes that keep a state sound ===== -/
theorem hAt_hPut (F : FT) {a b : Nat} (ha : isH a) (hb : isH b) (x : ST) : (F.hPut a x).hAt b = if b = a then x else F.hAt b := by
  rcases ha with rfl | rfl | rfl | rfl <;> rcases hb with rfl | rfl | rfl | rfl <;> rfl
theorem pAt_ok {F : FT} (h : F.pOk) : (∀ i, i < 4 → F.perm i = some (F.pAt i) ∧ isH (F.pAt i)) ∧ ∀ i j, i < 4 → j < 4 → F.pAt i = F.pAt j → i = j := by
  obtain ⟨p, h1, h2⟩ := h
  have e : ∀ i, i < 4 → F.pAt i = p i := fun i hi => by unfold FT.pAt; rw [(h1 i hi).1]; rfl
  refine ⟨fun i hi => by rw [e i hi]; exact h1 i hi, fun i j hi hj hij => h2 i j hi hj (by rw [← e i hi, ← e j hj]; exact hij)⟩
theorem hist_rem1 {F : FT} (h : F.histOk) (hk : F.k < 4) : F.rem1.histOk ∧ F.rem1.k = F.k + 1 ∧ (∀ i, i < F.k → F.rem1.hAt (F.rem1.pAt i) = F.hAt (F.pAt i)) ∧ F.rem1.hAt (F.rem1.pAt F.k) = F.now := by
  obtain ⟨hp, hs⟩ := h
  obtain ⟨q1, q2⟩ := pAt_ok hp
  have e1 : F.rem1.perm = F.perm := by
    show (F.hPut (F.pAt F.k) F.now).perm = F.perm
    exact hPut_eq.2.2.2.2.1 _ _ _
  have e2 : ∀ i, F.rem1.pAt i = F.pAt i := fun i => by unfold FT.pAt; rw [e1]
  have e3 : F.rem1.states = F.states + 1 := rfl
  have e3' : F.rem1.states = nI (F.k + 1) := by
    rw [e3]
    conv => lhs; rw [hs.1]
    exact nI_1 _
  have e4 : F.rem1.k = F.k + 1 := by
    show F.rem1.states.toNatClampNeg = F.k + 1
    rw [e3', nI_clamp (by omega)]
  have e5 : ∀ b, F.rem1.hAt b = (F.hPut (F.pAt F.k) F.now).hAt b := fun b => hPut_eq.2.2.2.2.2.2.2.2.1 _ _ _
  refine ⟨⟨?_, ?_⟩, e4, fun i hi => ?_, ?_⟩
  · obtain ⟨p, h1, h2⟩ := hp
    exact ⟨p, by rw [e1]; exact h1, h2⟩
  · rw [e4, e3']
    exact ⟨rfl, by omega, by omega⟩
  · rw [e2, e5, hAt_hPut F (q1 F.k hk).2 (q1 i (by omega)).2, if_neg]
    intro z
    have := q2 i F.k (by omega) hk z
    omega
  · rw [e2, e5, hAt_hPut F (q1 F.k hk).2 (q1 F.k hk).2, if_pos rfl]
theorem hist_rot {F : FT} (h : F.histOk) : F.rot.histOk ∧ F.rot.k = 3 ∧ (∀ i, i < 3 → F.rot.hAt (F.rot.pAt i) = F.hAt (F.pAt (i + 1))) := by
  obtain ⟨hp, hs⟩ := h
  obtain ⟨q1, q2⟩ := pAt_ok hp
  have e0 : ∀ i, F.rot.perm i = if i = 3 then F.perm 0 else if i = 2 then F.perm 3 else if i = 1 then F.perm 2 else if i = 0 then F.perm 1 else F.perm i := fun i => rfl
  have e1 : ∀ i, i < 3 → F.rot.perm i = F.perm (i + 1) := fun i hi => by
    rw [e0]
    match i, hi with
    | 0, _ => rfl
    | 1, _ => rfl
    | 2, _ => rfl
  have e3 : F.rot.perm 3 = F.perm 0 := by rw [e0]; rfl
  have e2 : ∀ i, i < 3 → F.rot.pAt i = F.pAt (i + 1) := fun i hi => by unfold FT.pAt; rw [e1 i hi]
  refine ⟨⟨⟨fun i => if i = 3 then F.pAt 0 else F.pAt (i + 1), fun i hi => ?_, fun i j hi hj hij => ?_⟩, ⟨rfl, by rw [show F.rot.k = 3 from rfl]; omega, by omega⟩⟩, rfl, fun i hi => ?_⟩
  · dsimp only
    by_cases c : i = 3
    · subst c
      rw [e3, if_pos rfl]
      exact q1 0 (by omega)
    · rw [if_neg c, e1 i (by omega)]
      exact q1 (i + 1) (by omega)
  · dsimp only at hij
    by_cases c : i = 3
    · by_cases d : j = 3
      · omega
      · rw [if_pos c, if_neg d] at hij
        have := q2 0 (j + 1) (by omega) (by omega) hij
        omega
    · by_cases d : j = 3
      · rw [if_neg c, if_pos d] at hij
        have := q2 (i + 1) 0 (by omega) (by omega) hij
        omega
      · rw [if_neg c, if_neg d] at hij
        have := q2 (i + 1) (j + 1) (by omega) (by omega) hij
        omega
  · rw [e2 i hi]
    rfl
theorem hist_rem {F : FT} (h : F.histOk) : F.remember.histOk ∧ (F.k < 4 → F.remember.k = F.k + 1 ∧ (∀ i, i < F.k → F.remember.hAt (F.remember.pAt i) = F.hAt (F.pAt i)) ∧ F.remember.hAt (F.remember.pAt F.k) = F.now) ∧ (¬ F.k < 4 → F.remember.k = 4 ∧ (∀ i, i < 3 → F.remember.hAt (F.remember.pAt i) = F.hAt (F.pAt (i + 1))) ∧ F.remember.hAt (F.remember.pAt 3) = F.now) := by
  have hc : F.states < 4 ↔ F.k < 4 := by
    have := h.2.2.1
    conv => lhs; rw [h.2.1]
    rw [show (4 : Int32) = nI 4 from rfl, nI_ltI (by omega) (by omega)]
  unfold FT.remember
  by_cases c : F.k < 4
  · rw [if_pos (hc.mpr c)]
    obtain ⟨a1, a2, a3, a4⟩ := hist_rem1 h c
    exact ⟨a1, fun _ => ⟨a2, a3, a4⟩, fun z => absurd c z⟩
  · rw [if_neg (fun z => c (hc.mp z))]
    obtain ⟨b1, b2, b3⟩ := hist_rot h
    obtain ⟨a1, a2, a3, a4⟩ := hist_rem1 b1 (by rw [b2]; omega)
    rw [b2] at a2 a3 a4
    refine ⟨a1, fun z => absurd z c, fun _ => ⟨a2, fun i hi => ?_, a4⟩⟩
    rw [a3 i hi, b3 i hi]
theorem hPut_bits {F : FT} (hb : F.h0.bits ∧ F.h1.bits ∧ F.h2.bits ∧ F.h3.bits) (k : Nat) {x : ST} (hx : x.bits) : (F.hPut k x).h0.bits ∧ (F.hPut k x).h1.bits ∧ (F.hPut k x).h2.bits ∧ (F.hPut k x).h3.bits := by
  obtain ⟨b0, b1, b2, b3⟩ := hb
  unfold FT.hPut
  (repeat' split)
  · exact ⟨hx, b1, b2, b3⟩
  · exact ⟨b0, hx, b2, b3⟩
  · exact ⟨b0, b1, hx, b3⟩
  · exact ⟨b0, b1, b2, hx⟩
theorem rem_bits {F : FT} (hb : F.h0.bits ∧ F.h1.bits ∧ F.h2.bits ∧ F.h3.bits) (hn : F.now.bits) : F.remember.h0.bits ∧ F.remember.h1.bits ∧ F.remember.h2.bits ∧ F.remember.h3.bits := by
  unfold FT.remember
  split
  · exact hPut_bits hb _ hn
  · exact hPut_bits (F := F.rot) hb _ hn
theorem rem_now (F : FT) (T : ST) : (F.sNow T).now = T := rfl
theorem tri_now (F : FT) (T : ST) : (F.sTrial T).now = F.now := rfl
theorem so_now (F : FT) (O : OT) : (F.sO O).now = F.now := rfl
theorem und_now (F : FT) : F.undo.now = F.hAt (F.pAt (F.k - 1)) := rem_now _ _
theorem ST.leak_inv {S : ST} {n : Nat} (h : S.inv n) (x : Int32) : (S.sLeak x).inv n := h
theorem ST.level_inv {S : ST} {n : Nat} (h : S.inv n) {x : Int32} (hx : rng x 0 20000) : (S.sLevel x).inv n := ⟨h.1, h.2.1, h.2.2.1, h.2.2.2.1, h.2.2.2.2.1, h.2.2.2.2.2.1, hx, h.2.2.2.2.2.2.2⟩
theorem ST.set_inv {S : ST} {n : Nat} (h : S.inv n) {x : Nat → Int32} (hx : setOk x) : (S.sSettings x).inv n := ⟨h.1, h.2.1, h.2.2.1, h.2.2.2.1, hx, h.2.2.2.2.2⟩
theorem PT.add_inv {S : PT} (h : S.inv) (h6 : S.size < 6) {k s t : Int32} (hs : rng s 0 2000) (ht : rng t 1 1000) : (S.add k s t).inv := by
  obtain ⟨⟨o1, o2, o3⟩, r1, r2, r3⟩ := h
  have hn : S.n < 6 := by
    rw [o1, show (6 : Int32) = nI 6 from rfl, nI_ltI (by omega) (by omega)] at h6
    exact h6
  have hz := r2 S.n (Nat.le_refl _) hn
  have e1 : (S.add k s t).size = nI (S.n + 1) := by
    show S.size + 1 = _
    rw [o1, nI_1]
  have e2 : (S.add k s t).n = S.n + 1 := by unfold PT.n at *; rw [e1, nI_clamp (by omega)]
  refine ⟨⟨by rw [e2]; exact e1, by rw [e2]; omega, by omega⟩, fun i hi => ?_, fun i hi hi6 w hw => ?_, ?_⟩
  · rw [e2] at hi
    by_cases c : i = S.n
    · subst c
      refine ⟨?_, ?_, ?_, ?_, ?_⟩
      · show rng (upd S.shutoffs S.n s S.n) 0 2000
        rw [upd_at]; exact hs
      · show rng (upd S.steeps S.n t S.n) 1 1000
        rw [upd_at]; exact ht
      · show rng (S.speeds S.n) 0 1000
        rw [show S.speeds S.n = 0 from hz 4 (by decide)]
        exact ⟨by decide, by decide⟩
      · show b01 (upd S.inService S.n 1 S.n)
        rw [upd_at]; exact Or.inr rfl
      · exact fun _ => hz 6 (by decide)
    · obtain ⟨q1, q2, q3, q4, q5⟩ := r1 i (by omega)
      refine ⟨?_, ?_, q3, ?_, q5⟩
      · show rng (upd S.shutoffs S.n s i) 0 2000
        rw [upd_off _ _ c]; exact q1
      · show rng (upd S.steeps S.n t i) 1 1000
        rw [upd_off _ _ c]; exact q2
      · show b01 (upd S.inService S.n 1 i)
        rw [upd_off _ _ c]; exact q4
  · rw [e2] at hi
    have c : i ≠ S.n := by omega
    have := r2 i (by omega) hi6 w hw
    match w, hw with
    | 0, _ => show upd S.kinds S.n k i = 0; rw [upd_off _ _ c]; exact this
    | 1, _ => show upd S.shutoffs S.n s i = 0; rw [upd_off _ _ c]; exact this
    | 2, _ => show upd S.steeps S.n t i = 0; rw [upd_off _ _ c]; exact this
    | 3, _ => show upd S.inService S.n 1 i = 0; rw [upd_off _ _ c]; exact this
    | 4, _ => exact this
    | 5, _ => exact this
    | 6, _ => exact this
    | 7, _ => exact this
  · rcases r3 with q | ⟨v, v1, v2, v3, v4⟩
    · exact Or.inl q
    · refine Or.inr ⟨v, by rw [e2]; omega, v2, v3, ?_⟩
      show ¬ upd S.kinds S.n k v = 0
      rw [upd_off _ _ (by omega)]
      exact v4
theorem ZT.add_inv {S : ZT} (h : S.inv) (h8 : S.size < 8) (d : Int32) : (S.add d).inv := by
  obtain ⟨⟨⟨o1, o2, o3⟩, om⟩, r1, r2, r3⟩ := h
  have hn : S.n < 8 := by
    rw [o1, show (8 : Int32) = nI 8 from rfl, nI_ltI (by omega) (by omega)] at h8
    exact h8
  have e1 : (S.add d).size = nI (S.n + 1) := by
    show S.size + 1 = _
    rw [o1, nI_1]
  have e2 : (S.add d).n = S.n + 1 := by unfold ZT.n at *; rw [e1, nI_clamp (by omega)]
  refine ⟨⟨⟨by rw [e2]; exact e1, by rw [e2]; omega, by omega⟩, om⟩, r1, fun i hi hi8 => ?_, fun k hk => ?_⟩
  · rw [e2] at hi
    have := r2 i (by omega) hi8
    refine ⟨?_, this.2⟩
    show upd S.demands S.n d i = 0
    rw [upd_off _ _ (by omega)]
    exact this.1
  · have := r3 k hk
    simp only [ZT.has, decide_eq_true_eq] at this ⊢
    refine ⟨this.1, ?_⟩
    have h2 := this.2
    show S.pzones k < (S.add d).size
    rw [e1]
    rw [o1] at h2
    have e3 : (nI (S.n + 1)).toInt = (S.n : Int) + 1 := by rw [nI_toInt (by omega)]; omega
    have e4 : (nI S.n).toInt = (S.n : Int) := nI_toInt (by omega)
    rw [Int32.lt_iff_toInt_lt] at h2 ⊢
    omega
theorem ZT.addP_inv {S : ZT} (h : S.inv) (h8 : S.programmes < 8) {z : Int32} (hz : S.has z = true) (f t : Int32) : (S.addP z f t).inv := by
  obtain ⟨⟨on, o1, o2, o3⟩, r1, r2, r3⟩ := h
  have hn : S.m < 8 := by
    rw [o1, show (8 : Int32) = nI 8 from rfl, nI_ltI (by omega) (by omega)] at h8
    exact h8
  have e1 : (S.addP z f t).programmes = nI (S.m + 1) := by
    show S.programmes + 1 = _
    rw [o1, nI_1]
  have e2 : (S.addP z f t).m = S.m + 1 := by unfold ZT.m at *; rw [e1, nI_clamp (by omega)]
  refine ⟨⟨on, by rw [e2]; exact e1, by rw [e2]; omega, by omega⟩, r1, r2, fun k hk => ?_⟩
  rw [e2] at hk
  show S.has (upd S.pzones S.m z k) = true
  unfold upd
  split
  · exact hz
  · exact r3 k (by omega)
theorem setOk_upd {f : Nat → Int32} (h : setOk f) {w v : Int32} (hs : isSet w v = true) : setOk (upd f w.toNatClampNeg v) := by
  unfold isSet at hs
  rw [Bool.and_eq_true] at hs
  have hr := inR_rng hs.2
  have hw := wlit18 hs.1
  obtain ⟨h3, h4, h6, h8, h10, h14⟩ := h
  unfold setOk
  rcases hw with rfl | rfl | rfl | rfl | rfl | rfl | rfl | rfl | rfl | rfl | rfl | rfl | rfl | rfl | rfl | rfl | rfl | rfl | rfl
  · rw [show ((0 : Int32)).toNatClampNeg = 0 from rfl] at hr ⊢
    refine ⟨?_, ?_, ?_, ?_, ?_, ?_⟩
    · rw [upd_off _ _ (by decide)]; exact h3
    · rw [upd_off _ _ (by decide)]; exact h4
    · rw [upd_off _ _ (by decide)]; exact h6
    · rw [upd_off _ _ (by decide)]; exact h8
    · rw [upd_off _ _ (by decide)]; exact h10
    · rw [upd_off _ _ (by decide)]; exact h14
  · rw [show ((1 : Int32)).toNatClampNeg = 1 from rfl] at hr ⊢
    refine ⟨?_, ?_, ?_, ?_, ?_, ?_⟩
    · rw [upd_off _ _ (by decide)]; exact h3
    · rw [upd_off _ _ (by decide)]; exact h4
    · rw [upd_off _ _ (by decide)]; exact h6
    · rw [upd_off _ _ (by decide)]; exact h8
    · rw [upd_off _ _ (by decide)]; exact h10
    · rw [upd_off _ _ (by decide)]; exact h14
  · rw [show ((2 : Int32)).toNatClampNeg = 2 from rfl] at hr ⊢
    refine ⟨?_, ?_, ?_, ?_, ?_, ?_⟩
    · rw [upd_off _ _ (by decide)]; exact h3
    · rw [upd_off _ _ (by decide)]; exact h4
    · rw [upd_off _ _ (by decide)]; exact h6
    · rw [upd_off _ _ (by decide)]; exact h8
    · rw [upd_off _ _ (by decide)]; exact h10
    · rw [upd_off _ _ (by decide)]; exact h14
  · rw [show ((3 : Int32)).toNatClampNeg = 3 from rfl] at hr ⊢
    refine ⟨?_, ?_, ?_, ?_, ?_, ?_⟩
    · rw [upd_at]; exact rng_mono hr (by decide) (by decide)
    · rw [upd_off _ _ (by decide)]; exact h4
    · rw [upd_off _ _ (by decide)]; exact h6
    · rw [upd_off _ _ (by decide)]; exact h8
    · rw [upd_off _ _ (by decide)]; exact h10
    · rw [upd_off _ _ (by decide)]; exact h14
  · rw [show ((4 : Int32)).toNatClampNeg = 4 from rfl] at hr ⊢
    refine ⟨?_, ?_, ?_, ?_, ?_, ?_⟩
    · rw [upd_off _ _ (by decide)]; exact h3
    · rw [upd_at]; exact rng_mono hr (by decide) (by decide)
    · rw [upd_off _ _ (by decide)]; exact h6
    · rw [upd_off _ _ (by decide)]; exact h8
    · rw [upd_off _ _ (by decide)]; exact h10
    · rw [upd_off _ _ (by decide)]; exact h14
  · rw [show ((5 : Int32)).toNatClampNeg = 5 from rfl] at hr ⊢
    refine ⟨?_, ?_, ?_, ?_, ?_, ?_⟩
    · rw [upd_off _ _ (by decide)]; exact h3
    · rw [upd_off _ _ (by decide)]; exact h4
    · rw [upd_off _ _ (by decide)]; exact h6
    · rw [upd_off _ _ (by decide)]; exact h8
    · rw [upd_off _ _ (by decide)]; exact h10
    · rw [upd_off _ _ (by decide)]; exact h14
  · rw [show ((6 : Int32)).toNatClampNeg = 6 from rfl] at hr ⊢
    refine ⟨?_, ?_, ?_, ?_, ?_, ?_⟩
    · rw [upd_off _ _ (by decide)]; exact h3
    · rw [upd_off _ _ (by decide)]; exact h4
    · rw [upd_at]; exact rng_mono hr (by decide) (by decide)
    · rw [upd_off _ _ (by decide)]; exact h8
    · rw [upd_off _ _ (by decide)]; exact h10
    · rw [upd_off _ _ (by decide)]; exact h14
  · rw [show ((7 : Int32)).toNatClampNeg = 7 from rfl] at hr ⊢
    refine ⟨?_, ?_, ?_, ?_, ?_, ?_⟩
    · rw [upd_off _ _ (by decide)]; exact h3
    · rw [upd_off _ _ (by decide)]; exact h4
    · rw [upd_off _ _ (by decide)]; exact h6
    · rw [upd_off _ _ (by decide)]; exact h8
    · rw [upd_off _ _ (by decide)]; exact h10
    · rw [upd_off _ _ (by decide)]; exact h14
  · rw [show ((8 : Int32)).toNatClampNeg = 8 from rfl] at hr ⊢
    refine ⟨?_, ?_, ?_, ?_, ?_, ?_⟩
    · rw [upd_off _ _ (by decide)]; exact h3
    · rw [upd_off _ _ (by decide)]; exact h4
    · rw [upd_off _ _ (by decide)]; exact h6
    · rw [upd_at]; exact rng_mono hr (by decide) (by decide)
    · rw [upd_off _ _ (by decide)]; exact h10
    · rw [upd_off _ _ (by decide)]; exact h14
  · rw [show ((9 : Int32)).toNatClampNeg = 9 from rfl] at hr ⊢
    refine ⟨?_, ?_, ?_, ?_, ?_, ?_⟩
    · rw [upd_off _ _ (by decide)]; exact h3
    · rw [upd_off _ _ (by decide)]; exact h4
    · rw [upd_off _ _ (by decide)]; exact h6
    · rw [upd_off _ _ (by decide)]; exact h8
    · rw [upd_off _ _ (by decide)]; exact h10
    · rw [upd_off _ _ (by decide)]; exact h14
  · rw [show ((10 : Int32)).toNatClampNeg = 10 from rfl] at hr ⊢
    refine ⟨?_, ?_, ?_, ?_, ?_, ?_⟩
    · rw [upd_off _ _ (by decide)]; exact h3
    · rw [upd_off _ _ (by decide)]; exact h4
    · rw [upd_off _ _ (by decide)]; exact h6
    · rw [upd_off _ _ (by decide)]; exact h8
    · rw [upd_at]; exact rng_mono hr (by decide) (by decide)
    · rw [upd_off _ _ (by decide)]; exact h14
  · rw [show ((11 : Int32)).toNatClampNeg = 11 from rfl] at hr ⊢
    refine ⟨?_, ?_, ?_, ?_, ?_, ?_⟩
    · rw [upd_off _ _ (by decide)]; exact h3
    · rw [upd_off _ _ (by decide)]; exact h4
    · rw [upd_off _ _ (by decide)]; exact h6
    · rw [upd_off _ _ (by decide)]; exact h8
    · rw [upd_off _ _ (by decide)]; exact h10
    · rw [upd_off _ _ (by decide)]; exact h14
  · rw [show ((12 : Int32)).toNatClampNeg = 12 from rfl] at hr ⊢
    refine ⟨?_, ?_, ?_, ?_, ?_, ?_⟩
    · rw [upd_off _ _ (by decide)]; exact h3
    · rw [upd_off _ _ (by decide)]; exact h4
    · rw [upd_off _ _ (by decide)]; exact h6
    · rw [upd_off _ _ (by decide)]; exact h8
    · rw [upd_off _ _ (by decide)]; exact h10
    · rw [upd_off _ _ (by decide)]; exact h14
  · rw [show ((13 : Int32)).toNatClampNeg = 13 from rfl] at hr ⊢
    refine ⟨?_, ?_, ?_, ?_, ?_, ?_⟩
    · rw [upd_off _ _ (by decide)]; exact h3
    · rw [upd_off _ _ (by decide)]; exact h4
    · rw [upd_off _ _ (by decide)]; exact h6
    · rw [upd_off _ _ (by decide)]; exact h8
    · rw [upd_off _ _ (by decide)]; exact h10
    · rw [upd_off _ _ (by decide)]; exact h14
  · rw [show ((14 : Int32)).toNatClampNeg = 14 from rfl] at hr ⊢
    refine ⟨?_, ?_, ?_, ?_, ?_, ?_⟩
    · rw [upd_off _ _ (by decide)]; exact h3
    · rw [upd_off _ _ (by decide)]; exact h4
    · rw [upd_off _ _ (by decide)]; exact h6
    · rw [upd_off _ _ (by decide)]; exact h8
    · rw [upd_off _ _ (by decide)]; exact h10
    · rw [upd_at]; exact rng_mono hr (by decide) (by decide)
  · rw [show ((15 : Int32)).toNatClampNeg = 15 from rfl] at hr ⊢
    refine ⟨?_, ?_, ?_, ?_, ?_, ?_⟩
    · rw [upd_off _ _ (by decide)]; exact h3
    · rw [upd_off _ _ (by decide)]; exact h4
    · rw [upd_off _ _ (by decide)]; exact h6
    · rw [upd_off _ _ (by decide)]; exact h8
    · rw [upd_off _ _ (by decide)]; exact h10
    · rw [upd_off _ _ (by decide)]; exact h14
  · rw [show ((16 : Int32)).toNatClampNeg = 16 from rfl] at hr ⊢
    refine ⟨?_, ?_, ?_, ?_, ?_, ?_⟩
    · rw [upd_off _ _ (by decide)]; exact h3
    · rw [upd_off _ _ (by decide)]; exact h4
    · rw [upd_off _ _ (by decide)]; exact h6
    · rw [upd_off _ _ (by decide)]; exact h8
    · rw [upd_off _ _ (by decide)]; exact h10
    · rw [upd_off _ _ (by decide)]; exact h14
  · rw [show ((17 : Int32)).toNatClampNeg = 17 from rfl] at hr ⊢
    refine ⟨?_, ?_, ?_, ?_, ?_, ?_⟩
    · rw [upd_off _ _ (by decide)]; exact h3
    · rw [upd_off _ _ (by decide)]; exact h4
    · rw [upd_off _ _ (by decide)]; exact h6
    · rw [upd_off _ _ (by decide)]; exact h8
    · rw [upd_off _ _ (by decide)]; exact h10
    · rw [upd_off _ _ (by decide)]; exact h14
  · rw [show ((18 : Int32)).toNatClampNeg = 18 from rfl] at hr ⊢
    refine ⟨?_, ?_, ?_, ?_, ?_, ?_⟩
    · rw [upd_off _ _ (by decide)]; exact h3
    · rw [upd_off _ _ (by decide)]; exact h4
    · rw [upd_off _ _ (by decide)]; exact h6
    · rw [upd_off _ _ (by decide)]; exact h8
    · rw [upd_off _ _ (by decide)]; exact h10
    · rw [upd_off _ _ (by decide)]; exact h14
