/-! ===== each call answers alike and keeps the tie ===== -/
/-- a call of both: name y of the class, z of the reference, the numbers as -/
def Both (n : Nat) (y : MethodName) (yc : ByteArray) (yl yd : Nat) (z : MethodName) (zc : ByteArray) (zl zd : Nat) (as : List Value) (F : FT) (M : MT) : Prop := ∃ (r : Int32) (F' : FT) (M' : MT), Con y yc yl (some .int) yd fpW (.ref 0 :: as) F (some (.int r)) F' ∧ Con z zc zl (some .int) zd aW (.ref 0 :: as) (F.now, M, false) (some (.int r)) (F'.now, M', false) ∧ Rel n F' M'
theorem Both.mk {n : Nat} {y z : MethodName} {yc zc : ByteArray} {yl yd zl zd : Nat} {as : List Value} {F F' : FT} {M M' : MT} {r : Int32} {T : ST} (h1 : Con y yc yl (some .int) yd fpW (.ref 0 :: as) F (some (.int r)) F') (e : F'.now = T) (h2 : Con z zc zl (some .int) zd aW (.ref 0 :: as) (F.now, M, false) (some (.int r)) (T, M', false)) (h3 : Rel n F' M') : Both n y yc yl yd z zc zl zd as F M := by
  subst e
  exact ⟨r, F', M', h1, h2, h3⟩
theorem rem_now (F : FT) (T : ST) : (F.sNow T).now = T := rfl
theorem tri_now (F : FT) (T : ST) : (F.sTrial T).now = F.now := rfl
theorem so_now (F : FT) (O : OT) : (F.sO O).now = F.now := rfl
theorem und_now (F : FT) : F.undo.now = F.hAt (F.pAt (F.k - 1)) := rem_now _ _
abbrev RM : Nat := 450000
theorem ST.leak_inv {S : ST} {n : Nat} (h : S.inv n) (x : Int32) : (S.sLeak x).inv n := h
theorem ST.level_inv {S : ST} {n : Nat} (h : S.inv n) {x : Int32} (hx : rng x 0 20000) : (S.sLevel x).inv n := ⟨h.1, h.2.1, h.2.2.1, h.2.2.2.1, h.2.2.2.2.1, h.2.2.2.2.2.1, hx, h.2.2.2.2.2.2.2⟩
theorem ST.set_inv {S : ST} {n : Nat} (h : S.inv n) {x : Nat → Int32} (hx : setOk x) : (S.sSettings x).inv n := ⟨h.1, h.2.1, h.2.2.1, h.2.2.2.1, hx, h.2.2.2.2.2⟩
theorem PT.add_inv {S : PT} (h : S.inv) (h6 : S.size < 6) {k s t : Int32} (hs : rng s 0 2000) (ht : rng t 1 1000) : (S.add k s t).inv := by
  obtain ⟨⟨o1, o2, o3⟩, r1, r2, r3⟩ := h
  have hn : S.n < 6 := by
    rw [o1, show (6 : Int32) = nI 6 from rfl, nI_ltI (by omega) (by omega)] at h6
    exact h6
  have hz := r2 S.n (Nat.le_refl _) hn
  have e1 : (S.add k s t).size = nI (S.n + 1) := by
    show S.size + 1 = _
    rw [o1, nI_1]
  have e2 : (S.add k s t).n = S.n + 1 := by unfold PT.n at *; rw [e1, nI_clamp (by omega)]
  refine ⟨⟨by rw [e2]; exact e1, by rw [e2]; omega, by omega⟩, fun i hi => ?_, fun i hi hi6 w hw => ?_, ?_⟩
  · rw [e2] at hi
    by_cases c : i = S.n
    · subst c
      refine ⟨?_, ?_, ?_, ?_, ?_⟩
      · show rng (upd S.shutoffs S.n s S.n) 0 2000
        rw [upd_at]; exact hs
      · show rng (upd S.steeps S.n t S.n) 1 1000
        rw [upd_at]; exact ht
      · show rng (S.speeds S.n) 0 1000
        rw [show S.speeds S.n = 0 from hz 4 (by decide)]
        exact ⟨by decide, by decide⟩
      · show b01 (upd S.inService S.n 1 S.n)
        rw [upd_at]; exact Or.inr rfl
      · exact fun _ => hz 6 (by decide)
    · obtain ⟨q1, q2, q3, q4, q5⟩ := r1 i (by omega)
      refine ⟨?_, ?_, q3, ?_, q5⟩
      · show rng (upd S.shutoffs S.n s i) 0 2000
        rw [upd_off _ _ c]; exact q1
      · show rng (upd S.steeps S.n t i) 1 1000
        rw [upd_off _ _ c]; exact q2
      · show b01 (upd S.inService S.n 1 i)
        rw [upd_off _ _ c]; exact q4
  · rw [e2] at hi
    have c : i ≠ S.n := by omega
    have := r2 i (by omega) hi6 w hw
    match w, hw with
    | 0, _ => show upd S.kinds S.n k i = 0; rw [upd_off _ _ c]; exact this
    | 1, _ => show upd S.shutoffs S.n s i = 0; rw [upd_off _ _ c]; exact this
    | 2, _ => show upd S.steeps S.n t i = 0; rw [upd_off _ _ c]; exact this
    | 3, _ => show upd S.inService S.n 1 i = 0; rw [upd_off _ _ c]; exact this
    | 4, _ => exact this
    | 5, _ => exact this
    | 6, _ => exact this
    | 7, _ => exact this
  · rcases r3 with q | ⟨v, v1, v2, v3, v4⟩
    · exact Or.inl q
    · refine Or.inr ⟨v, by rw [e2]; omega, v2, v3, ?_⟩
      show ¬ upd S.kinds S.n k v = 0
      rw [upd_off _ _ (by omega)]
      exact v4
theorem ZT.add_inv {S : ZT} (h : S.inv) (h8 : S.size < 8) (d : Int32) : (S.add d).inv := by
  obtain ⟨⟨⟨o1, o2, o3⟩, om⟩, r1, r2, r3⟩ := h
  have hn : S.n < 8 := by
    rw [o1, show (8 : Int32) = nI 8 from rfl, nI_ltI (by omega) (by omega)] at h8
    exact h8
  have e1 : (S.add d).size = nI (S.n + 1) := by
    show S.size + 1 = _
    rw [o1, nI_1]
  have e2 : (S.add d).n = S.n + 1 := by unfold ZT.n at *; rw [e1, nI_clamp (by omega)]
  refine ⟨⟨⟨by rw [e2]; exact e1, by rw [e2]; omega, by omega⟩, om⟩, r1, fun i hi hi8 => ?_, fun k hk => ?_⟩
  · rw [e2] at hi
    have := r2 i (by omega) hi8
    refine ⟨?_, this.2⟩
    show upd S.demands S.n d i = 0
    rw [upd_off _ _ (by omega)]
    exact this.1
  · have := r3 k hk
    simp only [ZT.has, decide_eq_true_eq] at this ⊢
    refine ⟨this.1, ?_⟩
    have h2 := this.2
    show S.pzones k < (S.add d).size
    rw [e1]
    rw [o1] at h2
    have e3 : (nI (S.n + 1)).toInt = (S.n : Int) + 1 := by rw [nI_toInt (by omega)]; omega
    have e4 : (nI S.n).toInt = (S.n : Int) := nI_toInt (by omega)
    rw [Int32.lt_iff_toInt_lt] at h2 ⊢
    omega
theorem ZT.addP_inv {S : ZT} (h : S.inv) (h8 : S.programmes < 8) {z : Int32} (hz : S.has z = true) (f t : Int32) : (S.addP z f t).inv := by
  obtain ⟨⟨on, o1, o2, o3⟩, r1, r2, r3⟩ := h
  have hn : S.m < 8 := by
    rw [o1, show (8 : Int32) = nI 8 from rfl, nI_ltI (by omega) (by omega)] at h8
    exact h8
  have e1 : (S.addP z f t).programmes = nI (S.m + 1) := by
    show S.programmes + 1 = _
    rw [o1, nI_1]
  have e2 : (S.addP z f t).m = S.m + 1 := by unfold ZT.m at *; rw [e1, nI_clamp (by omega)]
  refine ⟨⟨on, by rw [e2]; exact e1, by rw [e2]; omega, by omega⟩, r1, r2, fun k hk => ?_⟩
  rw [e2] at hk
  show S.has (upd S.pzones S.m z k) = true
  unfold upd
  split
  · exact hz
  · exact r3 k (by omega)
theorem setOk_upd {f : Nat → Int32} (h : setOk f) {w v : Int32} (hs : isSet w v = true) : setOk (upd f w.toNatClampNeg v) := by
  unfold isSet at hs
  rw [Bool.and_eq_true] at hs
  have hr := inR_rng hs.2
  have hw := wlit18 hs.1
  obtain ⟨h3, h4, h6, h8, h10, h14⟩ := h
  unfold setOk
  rcases hw with rfl | rfl | rfl | rfl | rfl | rfl | rfl | rfl | rfl | rfl | rfl | rfl | rfl | rfl | rfl | rfl | rfl | rfl | rfl
  · rw [show ((0 : Int32)).toNatClampNeg = 0 from rfl] at hr ⊢
    refine ⟨?_, ?_, ?_, ?_, ?_, ?_⟩
    · rw [upd_off _ _ (by decide)]; exact h3
    · rw [upd_off _ _ (by decide)]; exact h4
    · rw [upd_off _ _ (by decide)]; exact h6
    · rw [upd_off _ _ (by decide)]; exact h8
    · rw [upd_off _ _ (by decide)]; exact h10
    · rw [upd_off _ _ (by decide)]; exact h14
  · rw [show ((1 : Int32)).toNatClampNeg = 1 from rfl] at hr ⊢
    refine ⟨?_, ?_, ?_, ?_, ?_, ?_⟩
    · rw [upd_off _ _ (by decide)]; exact h3
    · rw [upd_off _ _ (by decide)]; exact h4
    · rw [upd_off _ _ (by decide)]; exact h6
    · rw [upd_off _ _ (by decide)]; exact h8
    · rw [upd_off _ _ (by decide)]; exact h10
    · rw [upd_off _ _ (by decide)]; exact h14
  · rw [show ((2 : Int32)).toNatClampNeg = 2 from rfl] at hr ⊢
    refine ⟨?_, ?_, ?_, ?_, ?_, ?_⟩
    · rw [upd_off _ _ (by decide)]; exact h3
    · rw [upd_off _ _ (by decide)]; exact h4
    · rw [upd_off _ _ (by decide)]; exact h6
    · rw [upd_off _ _ (by decide)]; exact h8
    · rw [upd_off _ _ (by decide)]; exact h10
    · rw [upd_off _ _ (by decide)]; exact h14
  · rw [show ((3 : Int32)).toNatClampNeg = 3 from rfl] at hr ⊢
    refine ⟨?_, ?_, ?_, ?_, ?_, ?_⟩
    · rw [upd_at]; exact rng_mono hr (by decide) (by decide)
    · rw [upd_off _ _ (by decide)]; exact h4
    · rw [upd_off _ _ (by decide)]; exact h6
    · rw [upd_off _ _ (by decide)]; exact h8
    · rw [upd_off _ _ (by decide)]; exact h10
    · rw [upd_off _ _ (by decide)]; exact h14
  · rw [show ((4 : Int32)).toNatClampNeg = 4 from rfl] at hr ⊢
    refine ⟨?_, ?_, ?_, ?_, ?_, ?_⟩
    · rw [upd_off _ _ (by decide)]; exact h3
    · rw [upd_at]; exact rng_mono hr (by decide) (by decide)
    · rw [upd_off _ _ (by decide)]; exact h6
    · rw [upd_off _ _ (by decide)]; exact h8
    · rw [upd_off _ _ (by decide)]; exact h10
    · rw [upd_off _ _ (by decide)]; exact h14
  · rw [show ((5 : Int32)).toNatClampNeg = 5 from rfl] at hr ⊢
    refine ⟨?_, ?_, ?_, ?_, ?_, ?_⟩
    · rw [upd_off _ _ (by decide)]; exact h3
    · rw [upd_off _ _ (by decide)]; exact h4
    · rw [upd_off _ _ (by decide)]; exact h6
    · rw [upd_off _ _ (by decide)]; exact h8
    · rw [upd_off _ _ (by decide)]; exact h10
    · rw [upd_off _ _ (by decide)]; exact h14
  · rw [show ((6 : Int32)).toNatClampNeg = 6 from rfl] at hr ⊢
    refine ⟨?_, ?_, ?_, ?_, ?_, ?_⟩
    · rw [upd_off _ _ (by decide)]; exact h3
    · rw [upd_off _ _ (by decide)]; exact h4
    · rw [upd_at]; exact rng_mono hr (by decide) (by decide)
    · rw [upd_off _ _ (by decide)]; exact h8
    · rw [upd_off _ _ (by decide)]; exact h10
    · rw [upd_off _ _ (by decide)]; exact h14
  · rw [show ((7 : Int32)).toNatClampNeg = 7 from rfl] at hr ⊢
    refine ⟨?_, ?_, ?_, ?_, ?_, ?_⟩
    · rw [upd_off _ _ (by decide)]; exact h3
    · rw [upd_off _ _ (by decide)]; exact h4
    · rw [upd_off _ _ (by decide)]; exact h6
    · rw [upd_off _ _ (by decide)]; exact h8
    · rw [upd_off _ _ (by decide)]; exact h10
    · rw [upd_off _ _ (by decide)]; exact h14
  · rw [show ((8 : Int32)).toNatClampNeg = 8 from rfl] at hr ⊢
    refine ⟨?_, ?_, ?_, ?_, ?_, ?_⟩
    · rw [upd_off _ _ (by decide)]; exact h3
    · rw [upd_off _ _ (by decide)]; exact h4
    · rw [upd_off _ _ (by decide)]; exact h6
    · rw [upd_at]; exact rng_mono hr (by decide) (by decide)
    · rw [upd_off _ _ (by decide)]; exact h10
    · rw [upd_off _ _ (by decide)]; exact h14
  · rw [show ((9 : Int32)).toNatClampNeg = 9 from rfl] at hr ⊢
    refine ⟨?_, ?_, ?_, ?_, ?_, ?_⟩
    · rw [upd_off _ _ (by decide)]; exact h3
    · rw [upd_off _ _ (by decide)]; exact h4
    · rw [upd_off _ _ (by decide)]; exact h6
    · rw [upd_off _ _ (by decide)]; exact h8
    · rw [upd_off _ _ (by decide)]; exact h10
    · rw [upd_off _ _ (by decide)]; exact h14
  · rw [show ((10 : Int32)).toNatClampNeg = 10 from rfl] at hr ⊢
    refine ⟨?_, ?_, ?_, ?_, ?_, ?_⟩
    · rw [upd_off _ _ (by decide)]; exact h3
    · rw [upd_off _ _ (by decide)]; exact h4
    · rw [upd_off _ _ (by decide)]; exact h6
    · rw [upd_off _ _ (by decide)]; exact h8
    · rw [upd_at]; exact rng_mono hr (by decide) (by decide)
    · rw [upd_off _ _ (by decide)]; exact h14
  · rw [show ((11 : Int32)).toNatClampNeg = 11 from rfl] at hr ⊢
    refine ⟨?_, ?_, ?_, ?_, ?_, ?_⟩
    · rw [upd_off _ _ (by decide)]; exact h3
    · rw [upd_off _ _ (by decide)]; exact h4
    · rw [upd_off _ _ (by decide)]; exact h6
    · rw [upd_off _ _ (by decide)]; exact h8
    · rw [upd_off _ _ (by decide)]; exact h10
    · rw [upd_off _ _ (by decide)]; exact h14
  · rw [show ((12 : Int32)).toNatClampNeg = 12 from rfl] at hr ⊢
    refine ⟨?_, ?_, ?_, ?_, ?_, ?_⟩
    · rw [upd_off _ _ (by decide)]; exact h3
    · rw [upd_off _ _ (by decide)]; exact h4
    · rw [upd_off _ _ (by decide)]; exact h6
    · rw [upd_off _ _ (by decide)]; exact h8
    · rw [upd_off _ _ (by decide)]; exact h10
    · rw [upd_off _ _ (by decide)]; exact h14
  · rw [show ((13 : Int32)).toNatClampNeg = 13 from rfl] at hr ⊢
    refine ⟨?_, ?_, ?_, ?_, ?_, ?_⟩
    · rw [upd_off _ _ (by decide)]; exact h3
    · rw [upd_off _ _ (by decide)]; exact h4
    · rw [upd_off _ _ (by decide)]; exact h6
    · rw [upd_off _ _ (by decide)]; exact h8
    · rw [upd_off _ _ (by decide)]; exact h10
    · rw [upd_off _ _ (by decide)]; exact h14
  · rw [show ((14 : Int32)).toNatClampNeg = 14 from rfl] at hr ⊢
    refine ⟨?_, ?_, ?_, ?_, ?_, ?_⟩
    · rw [upd_off _ _ (by decide)]; exact h3
    · rw [upd_off _ _ (by decide)]; exact h4
    · rw [upd_off _ _ (by decide)]; exact h6
    · rw [upd_off _ _ (by decide)]; exact h8
    · rw [upd_off _ _ (by decide)]; exact h10
    · rw [upd_at]; exact rng_mono hr (by decide) (by decide)
  · rw [show ((15 : Int32)).toNatClampNeg = 15 from rfl] at hr ⊢
    refine ⟨?_, ?_, ?_, ?_, ?_, ?_⟩
    · rw [upd_off _ _ (by decide)]; exact h3
    · rw [upd_off _ _ (by decide)]; exact h4
    · rw [upd_off _ _ (by decide)]; exact h6
    · rw [upd_off _ _ (by decide)]; exact h8
    · rw [upd_off _ _ (by decide)]; exact h10
    · rw [upd_off _ _ (by decide)]; exact h14
  · rw [show ((16 : Int32)).toNatClampNeg = 16 from rfl] at hr ⊢
    refine ⟨?_, ?_, ?_, ?_, ?_, ?_⟩
    · rw [upd_off _ _ (by decide)]; exact h3
    · rw [upd_off _ _ (by decide)]; exact h4
    · rw [upd_off _ _ (by decide)]; exact h6
    · rw [upd_off _ _ (by decide)]; exact h8
    · rw [upd_off _ _ (by decide)]; exact h10
    · rw [upd_off _ _ (by decide)]; exact h14
  · rw [show ((17 : Int32)).toNatClampNeg = 17 from rfl] at hr ⊢
    refine ⟨?_, ?_, ?_, ?_, ?_, ?_⟩
    · rw [upd_off _ _ (by decide)]; exact h3
    · rw [upd_off _ _ (by decide)]; exact h4
    · rw [upd_off _ _ (by decide)]; exact h6
    · rw [upd_off _ _ (by decide)]; exact h8
    · rw [upd_off _ _ (by decide)]; exact h10
    · rw [upd_off _ _ (by decide)]; exact h14
  · rw [show ((18 : Int32)).toNatClampNeg = 18 from rfl] at hr ⊢
    refine ⟨?_, ?_, ?_, ?_, ?_, ?_⟩
    · rw [upd_off _ _ (by decide)]; exact h3
    · rw [upd_off _ _ (by decide)]; exact h4
    · rw [upd_off _ _ (by decide)]; exact h6
    · rw [upd_off _ _ (by decide)]; exact h8
    · rw [upd_off _ _ (by decide)]; exact h10
    · rw [upd_off _ _ (by decide)]; exact h14
theorem Rel.trial {n : Nat} {F : FT} {M : MT} (h : Rel n F M) (T : ST) : Rel n (F.sTrial T) M := by
  obtain ⟨h1, h2, h3, h4, h5, h6⟩ := h
  exact ⟨h1, h2, h3, fun i hi => h4 i hi, h5, h6⟩
theorem Rel.sO {n : Nat} {F : FT} {M T : MT} (h : Rel n F M) {O : OT} (ho : O.ok) (hc : O.chars) (e1 : T.saved = M.saved) (e2 : T.savedMany = M.savedMany) (e3 : T.text = O.text) (e4 : T.textLong = O.length) : Rel n (F.sO O) T := by
  obtain ⟨⟨g1, g2, g3, g4, g5⟩, h2, h3, h4, h5, h6⟩ := h
  exact ⟨⟨g1, g2, g3, ho, hc⟩, h2, e2.trans h3, fun i hi => ⟨(h4 i hi).1, fun j hj => by rw [e1]; exact (h4 i hi).2 j hj⟩, e3, e4⟩
theorem lay_kr (M : MT) (S : ST) (x : Int32) : M.kr ((M.lay S).sSeen x) := ⟨rfl, rfl, rfl, rfl⟩
theorem seen_kr (M : MT) (x : Int32) : M.kr (M.sSeen x) := ⟨rfl, rfl, rfl, rfl⟩
theorem evs_kr (M : MT) (fl c : Bool) (k : Int32) : M.kr (M.evs fl c k) := by
  rw [← evs_seen]
  exact seen_kr _ _
section
variable {n : Nat} {F : FT} {M : MT}
theorem inv1 (h : Rel (n + RM) F M) : F.now.inv 1 := ST.inv_le h.2.1 (by unfold RM; omega)
theorem inv4 (h : Rel (n + RM) F M) : F.now.inv 400000 := ST.inv_le h.2.1 (by unfold RM; omega)
theorem Rel.same (h : Rel (n + RM) F M) : Rel n F M := h.le (by omega)
theorem invn (h : Rel (n + RM) F M) : F.now.inv n := ST.inv_le h.2.1 (by omega)
theorem Rel.remr (h : Rel (n + RM) F M) {T : ST} (hT : T.inv n) : Rel n (F.remember.sNow T) (M.saveA F.now) := Rel.rem h.same hT
theorem st_leak (h : Rel (n + RM) F M) (v : Int32) : Both n yX6_leak cX6_leak 3 4 yX7_leak cX7_leak 3 1 [.int v] F M := by
  have h1 := con_X6_leak F v h.1
  have h2 := con_X7_leak F.now M false v h.k.2
  by_cases c : inR v 0 1000 = true
  · rw [if_neg (by rw [c]; decide), if_pos c] at h1 h2
    exact Both.mk h1 (rem_now _ _) h2 (h.remr (ST.leak_inv (invn h) v))
  · rw [if_neg c] at h1 h2
    rw [if_pos (bnot c)] at h1 h2
    exact Both.mk h1 rfl h2 h.same
theorem st_fill (h : Rel (n + RM) F M) (v : Int32) : Both n yX6_fill cX6_fill 3 4 yX7_fill cX7_fill 3 1 [.int v] F M := by
  have h1 := con_X6_fill F v h.1
  have h2 := con_X7_fill F.now M false v h.k.2
  by_cases c : inR v 0 20000 = true
  · rw [if_neg (by rw [c]; decide), if_pos c] at h1 h2
    exact Both.mk h1 (rem_now _ _) h2 (h.remr (ST.level_inv (invn h) (inR_rng c)))
  · rw [if_neg c] at h1 h2
    rw [if_pos (bnot c)] at h1 h2
    exact Both.mk h1 rfl h2 h.same
theorem st_pump (h : Rel (n + RM) F M) (k : Int32) (s : Int32) (t : Int32) : Both n yX6_pump cX6_pump 4 4 yX7_pump cX7_pump 6 1 [.int k, .int s, .int t] F M := by
  have h1 := con_X6_pump F k s t h.1
  have h2 := con_X7_pump F.now M false k s t ⟨inv1 h, h.k.2⟩
  by_cases c : okPump k s t = true ∧ F.now.P.size < 6
  · rw [if_pos c] at h1 h2
    have hc := c.1
    unfold okPump at hc
    simp only [Bool.and_eq_true] at hc
    exact Both.mk h1 (rem_now _ _) h2 (h.remr (ST.sP_inv (invn h) (PT.add_inv h.2.1.1 c.2 (rng_mono (inR_rng hc.1.2) (by decide) (by decide)) (inR_rng hc.2))))
  · rw [if_neg c] at h1 h2
    exact Both.mk h1 rfl h2 h.same
theorem st_service (h : Rel (n + RM) F M) (p : Int32) (is : Int32) : Both n yX6_service cX6_service 4 4 yX7_service cX7_service 3 5 [.int p, .int is] F M := by
  have h1 := con_X6_service F p is h.1
  have h2 := con_X7_service F.now M false p is ⟨inv1 h, h.k.2⟩
  have e : F.okServ p is = okServ7 F.now p is := rfl
  rw [e] at h1
  by_cases c : okServ7 F.now p is = true
  · have hc := c
    unfold okServ7 at hc
    rw [Bool.and_eq_true] at hc
    have hb := is01 hc.2
    rw [bI_is hb] at h1
    by_cases d : okServ7 F.now p is = true ∧ ¬ F.now.P.inService p.toNatClampNeg = is
    · rw [if_pos d] at h1 h2
      exact Both.mk h1 (rem_now _ _) h2 ((h.remr (ST.change_inv (ST.inv_le h.2.1 (by unfold RM; omega)) hc.1 hb)).kr (evs_kr _ _ _ _))
    · rw [if_neg d] at h1 h2
      exact Both.mk h1 rfl h2 h.same
  · have c2 := bnot c
    rw [if_pos c2, if_neg (show ¬ (okServ7 F.now p is = true ∧ ¬ F.now.P.inService p.toNatClampNeg = bI (decide (is = 1))) from fun z => c z.1)] at h1
    rw [if_pos c2, if_neg (show ¬ (okServ7 F.now p is = true ∧ ¬ F.now.P.inService p.toNatClampNeg = is) from fun z => c z.1)] at h2
    exact Both.mk h1 rfl h2 h.same
theorem st_pumpOf (h : Rel (n + RM) F M) (p : Int32) (w : Int32) : Both n yX6_pumpOf cX6_pumpOf 4 2 yX7_pumpOf cX7_pumpOf 3 2 [.int p, .int w] F M := by
  have h1 := con_X6_pumpOf F p w h.1
  have h2 := con_X7_pumpOf F.now M false p w (inv1 h)
  exact Both.mk h1 rfl h2 h.same
theorem st_curve (h : Rel (n + RM) F M) (p : Int32) (s : Int32) (r : Int32) : Both n yX6_curve cX6_curve 4 2 yX7_curve cX7_curve 4 2 [.int p, .int s, .int r] F M := by
  have h1 := con_X6_curve F p s r h.1
  have h2 := con_X7_curve F.now M false p s r (inv1 h)
  exact Both.mk h1 rfl h2 h.same
theorem st_readyAt (h : Rel (n + RM) F M) (i : Int32) : Both n yX6_readyAt cX6_readyAt 3 3 yX7_readyAt cX7_readyAt 3 5 [.int i] F M := by
  have h1 := con_X6_readyAt F i h.1
  have h2 := con_X7_readyAt F.now M false i (inv1 h)
  exact Both.mk h1 rfl h2 h.same
theorem st_balance (h : Rel (n + RM) F M)  : Both n yX6_balance cX6_balance 1 2 yX7_balance cX7_balance 4 1 [] F M := by
  have h1 := con_X6_balance F  h.1
  have h2 := con_X7_balance F.now M false  (inv1 h)
  exact Both.mk h1 rfl h2 h.same
theorem st_zoneOf (h : Rel (n + RM) F M) (z : Int32) (w : Int32) : Both n yX6_zoneOf cX6_zoneOf 4 1 yX7_zoneOf cX7_zoneOf 5 2 [.int z, .int w] F M := by
  have h1 := con_X6_zoneOf F z w h.1
  have h2 := con_X7_zoneOf F.now M false z w (inv1 h)
  exact Both.mk h1 rfl h2 h.same
theorem st_nightAt (h : Rel (n + RM) F M) (i : Int32) : Both n yX6_nightAt cX6_nightAt 2 1 yX7_nightAt cX7_nightAt 2 0 [.int i] F M := by
  have h1 := con_X6_nightAt F i h.1
  have h2 := con_X7_nightAt F.now M false i (inv1 h)
  exact Both.mk h1 rfl h2 h.same
theorem st_eventAt (h : Rel (n + RM) F M) (i : Int32) (w : Int32) : Both n yX6_eventAt cX6_eventAt 5 3 yX7_eventAt cX7_eventAt 4 1 [.int i, .int w] F M := by
  have h1 := con_X6_eventAt F i w h.1
  have h2 := con_X7_eventAt F.now M false i w (inv1 h)
  exact Both.mk h1 rfl h2 h.same
theorem st_station (h : Rel (n + RM) F M) (w : Int32) : Both n yX6_station cX6_station 2 3 yX7_station cX7_station 2 3 [.int w] F M := by
  have h1 : Con yX6_station cX6_station 2 (some .int) 3 fpW [.ref 0, .int w] F (some (.int (F.now.tell w))) F := by
    unfold ST.tell
    exact con_X6_station F w h.1
  have h2 := con_X7_station F.now M false w (inv1 h)
  exact Both.mk h1 rfl h2 h.same
theorem st_zone (h : Rel (n + RM) F M) (d : Int32) : Both n yX6_zone cX6_zone 2 4 yX7_zone cX7_zone 3 1 [.int d] F M := by
  have h1 := con_X6_zone F d h.1
  have h2 := con_X7_zone F.now M false d ⟨inv1 h, h.k.2⟩
  by_cases c : inR d 1 1000 = true ∧ F.now.Z.size < 8
  · rw [if_pos c] at h1 h2
    exact Both.mk h1 (rem_now _ _) h2 (h.remr (ST.sZ_inv (invn h) (ZT.add_inv h.2.1.2.1 c.2 d)))
  · rw [if_neg c] at h1 h2
    exact Both.mk h1 rfl h2 h.same
theorem st_open (h : Rel (n + RM) F M) (z : Int32) (is : Int32) : Both n yX6_open cX6_open 4 4 yX7_open cX7_open 3 2 [.int z, .int is] F M := by
  have h1 := con_X6_open F z is h.1
  have h2 := con_X7_open F.now M false z is ⟨inv1 h, h.k.2⟩
  have e : F.okOpen z is = okOpen7 F.now z is := rfl
  rw [e] at h1
  by_cases c : okOpen7 F.now z is = true
  · have hc := c
    unfold okOpen7 at hc
    rw [Bool.and_eq_true] at hc
    have hb := is01 hc.2
    rw [bI_is hb] at h1
    by_cases d : okOpen7 F.now z is = true ∧ ¬ F.now.Z.isOpen z.toNatClampNeg = is
    · rw [if_pos d] at h1 h2
      obtain ⟨i, hi, e1, e2⟩ := ZT.has_n h.2.1.2.1.1 hc.1
      refine Both.mk h1 (rem_now _ _) h2 (h.remr (ST.sZ_inv (invn h) ?_))
      rw [e2]
      exact ZT.set_inv h.2.1.2.1 hi hb
    · rw [if_neg d] at h1 h2
      exact Both.mk h1 rfl h2 h.same
  · have c2 := bnot c
    rw [if_pos c2, if_neg (show ¬ (okOpen7 F.now z is = true ∧ ¬ F.now.Z.isOpen z.toNatClampNeg = bI (decide (is = 1))) from fun z => c z.1)] at h1
    rw [if_pos c2, if_neg (show ¬ (okOpen7 F.now z is = true ∧ ¬ F.now.Z.isOpen z.toNatClampNeg = is) from fun z => c z.1)] at h2
    exact Both.mk h1 rfl h2 h.same
theorem st_programme (h : Rel (n + RM) F M) (z : Int32) (f : Int32) (t : Int32) : Both n yX6_programme cX6_programme 4 4 yX7_programme cX7_programme 5 2 [.int z, .int f, .int t] F M := by
  have h1 := con_X6_programme F z f t h.1
  have h2 := con_X7_programme F.now M false z f t ⟨inv1 h, h.k.2⟩
  have e : F.okProg z f t = okProg7 F.now z f t := rfl
  rw [e] at h1
  by_cases c : okProg7 F.now z f t = true ∧ F.now.Z.programmes < 8
  · rw [if_pos c] at h1 h2
    have hc := c.1
    unfold okProg7 at hc
    simp only [Bool.and_eq_true] at hc
    exact Both.mk h1 (rem_now _ _) h2 (h.remr (ST.sZ_inv (invn h) (ZT.addP_inv h.2.1.2.1 c.2 hc.1.1.1 f t)))
  · rw [if_neg c] at h1 h2
    exact Both.mk h1 rfl h2 h.same
theorem st_reset (h : Rel (n + RM) F M)  : Both n yX6_reset cX6_reset 2 4 yX7_reset cX7_reset 1 2 [] F M := by
  have h1 := con_X6_reset F h.1
  have h2 := con_X7_reset F.now M false ⟨inv1 h, h.k.2⟩
  by_cases c : F.now.trips = 0
  · rw [if_pos c, if_pos c] at h1 h2
    exact Both.mk h1 rfl h2 h.same
  · rw [if_neg c, if_neg c] at h1 h2
    exact Both.mk h1 (rem_now _ _) h2 ((h.remr (ST.goOn_inv (ST.trips_inv (ST.inv_le h.2.1 (by unfold RM; omega)) 0))).kr (evs_kr _ _ _ _))
theorem st_pass (h : Rel (n + RM) F M) (m : Int32) : Both n yX6_pass cX6_pass 3 5 yX7_pass cX7_pass 3 8 [.int m] F M := by
  have h1 := con_X6_pass F m h.1
  have h2 := con_X7_pass F.now M false m ⟨ST.inv_le (inv4 h) (by omega), h.k.2, rfl⟩
  by_cases c : inR m 1 240 = true
  · by_cases d : 20000 < F.now.time + m
    · have e : pfault F.now m = -1000003 := by unfold pfault; rw [if_neg (by rw [c]; decide), if_pos d]
      rw [e, if_neg (by decide), if_neg (by decide)] at h2
      rw [if_neg (by rw [c]; decide), if_pos d, if_neg (fun z => z.2 d)] at h1
      exact Both.mk h1 rfl h2 h.same
    · have e : pfault F.now m = 0 := by unfold pfault; rw [if_neg (by rw [c]; decide), if_neg d]
      rw [e, if_pos rfl, if_pos rfl] at h2
      rw [if_neg (by rw [c]; decide), if_neg d, if_pos ⟨c, d⟩] at h1
      have hm := (inR_cl (b := 240) c (by omega)).2
      exact Both.mk h1 (rem_now _ _) h2 ((h.remr (ST.mins_inv _ (ST.inv_le h.2.1 (by unfold RM; omega)))).kr (seen_kr _ _))
  · have c2 := bnot c
    have e : pfault F.now m = -1000001 := by unfold pfault; rw [if_pos c2]
    rw [e, if_neg (by decide), if_neg (by decide)] at h2
    rw [if_pos c2, if_neg (fun z => c z.1)] at h1
    exact Both.mk h1 rfl h2 h.same
theorem st_foresee (h : Rel (n + RM) F M) (m : Int32) (w : Int32) : Both n yX6_foresee cX6_foresee 4 5 yX7_foresee cX7_foresee 4 8 [.int m, .int w] F M := by
  have h1 := con_X6_foresee F m w h.1
  have h2 := con_X7_foresee F.now M false m w ⟨ST.inv_le (inv4 h) (by omega), rfl⟩
  by_cases c : okFore m w = true
  · rw [if_pos c] at h1 h2
    exact Both.mk h1 (tri_now F _) h2 ((h.same.trial _).kr (lay_kr _ _ _))
  · rw [if_neg c] at h1 h2
    rw [if_pos (bnot c)] at h1 h2
    exact Both.mk h1 rfl h2 h.same
theorem st_foreseeEvent (h : Rel (n + RM) F M) (k : Int32) : Both n yX6_foreseeEvent cX6_foreseeEvent 3 5 yX7_foreseeEvent cX7_foreseeEvent 3 7 [.int k] F M := by
  have h1 := con_X6_foreseeEvent F k h.1
  have h2 := con_X7_foreseeEvent F.now M false k ⟨ST.inv_le (inv4 h) (by omega), rfl⟩
  by_cases c : inR k 0 7 = true
  · rw [if_pos c] at h1 h2
    exact Both.mk h1 (tri_now F _) h2 ((h.same.trial _).kr (lay_kr _ _ _))
  · rw [if_neg c] at h1 h2
    rw [if_pos (bnot c)] at h1 h2
    exact Both.mk h1 rfl h2 h.same
theorem st_count (h : Rel (n + RM) F M) (w : Int32) : Both n yX6_count cX6_count 2 2 yX7_count cX7_count 2 4 [.int w] F M := by
  have h1 := con_X6_count F w h.1
  have h2 := con_X7_count F.now M false w (inv1 h)
  have e : cnt7 F.now M w = F.cnt w := by
    unfold cnt7 FT.cnt
    rw [h.2.2.1, h.2.2.2.2.2]
  rw [e] at h2
  exact Both.mk h1 rfl h2 h.same
theorem Rel.und {n : Nat} {F : FT} {M : MT} (h : Rel n F M) (hk : ¬ F.k = 0) : Rel n F.undo (M.sSavedMany (nI (F.k - 1))) := by
  obtain ⟨⟨⟨p1, p2⟩, g2, g3, g4, g5⟩, h2, h3, h4, h5, h6⟩ := h
  have hs : F.states - 1 = nI (F.k - 1) := by
    conv => lhs; rw [p2.1]
    rw [show (1 : Int32) = nI 1 from rfl, pk_sub (by omega)]
  have e1 : F.undo.states = nI (F.k - 1) := hs
  have e2 : F.undo.k = F.k - 1 := by
    have : F.undo.k = F.undo.states.toNatClampNeg := rfl
    rw [this, e1, nI_clamp (by have := p2.2.1; omega)]
  have e3 : ∀ b, F.undo.hAt b = F.hAt b := fun b => (hPut_eq.2.2.2.2.2.2.2.1 _ _ _).trans (hPut_eq.2.2.2.2.2.2.2.2.1 _ _ _)
  have e4 : ∀ i, F.undo.pAt i = F.pAt i := fun i => rfl
  have hl := h4 (F.k - 1) (by omega)
  have e5 : F.undo.now = F.hAt (F.pAt (F.k - 1)) := rfl
  refine ⟨⟨⟨p1, ?_⟩, ?_, g3, g4, g5⟩, ?_, e1.symm, fun i hi => ?_, h5, h6⟩
  · rw [e2, e1]
    exact ⟨rfl, by have := p2.2.1; omega, by omega⟩
  · rw [e5]; exact ST.inv_okk hl.1
  · rw [e5]; exact hl.1
  · rw [e2] at hi
    rw [e4, e3]
    exact h4 i (by omega)
theorem st_undo (h : Rel (n + RM) F M)  : Both n yX6_undo cX6_undo 1 3 yX7_undo cX7_undo 2 0 [] F M := by
  have h1 := con_X6_undo F ⟨h.1.1, h.1.2.2.1⟩
  have hk := h.k.1
  have h2 := cona_X7_undo F.now M (F.hAt (F.pAt (F.k - 1))) h.k.2 (fun z i hi => by
    rw [hk] at z ⊢
    exact (h.2.2.2.1 (F.k - 1) (by omega)).2 i hi)
  rw [hk] at h2
  have h0 : F.states = 0 ↔ F.k = 0 := by
    have := h.1.1.2.2.1
    conv => lhs; rw [h.1.1.2.1]
    rw [show (0 : Int32) = nI 0 from rfl, nI_eq (by omega) (by omega)]
  by_cases c : F.k = 0
  · rw [if_pos c, if_pos c] at h2
    rw [if_pos (h0.mpr c), if_pos (h0.mpr c)] at h1
    exact Both.mk h1 rfl h2 h.same
  · rw [if_neg c, if_neg c] at h2
    rw [if_neg (fun z => c (h0.mp z)), if_neg (fun z => c (h0.mp z))] at h1
    have hs : F.states - 1 = nI (F.k - 1) := by
      conv => lhs; rw [h.1.1.2.1]
      rw [show (1 : Int32) = nI 1 from rfl, pk_sub (by omega)]
    rw [hs] at h1
    exact Both.mk h1 (und_now F) h2 (h.same.und c)
theorem st_type (h : Rel (n + RM) F M) (c : Int32) : Both n yX6_type cX6_type 2 1 yX7_type cX7_type 2 1 [.int c] F M := by
  have h1 := con_X6_type F c h.1
  obtain ⟨ht, hi⟩ := h.t
  have h2 := cona_X7_type F.now M false c hi
  rw [ht] at h2
  have ho := h.1.2.2.2.1
  have hl : F.O.length < 60 ↔ ¬ F.O.n = 60 := by
    have := ho.2.1
    conv => lhs; rw [ho.1]
    rw [show (60 : Int32) = nI 60 from rfl, nI_ltI (by omega) (by omega)]
    omega
  by_cases d : inR c 32 126 = true
  · by_cases q : F.O.n = 60
    · rw [if_neg (by rw [d]; decide), if_pos q, if_pos (Or.inr q)] at h2
      rw [if_neg (by rw [d]; decide), if_neg (fun z => hl.mp z q), if_neg (fun z => hl.mp z.2 q)] at h1
      exact Both.mk h1 rfl h2 h.same
    · rw [if_neg (by rw [d]; decide), if_neg q, if_neg (fun z => z.elim (fun z => by rw [d] at z; cases z) q)] at h2
      rw [if_neg (by rw [d]; decide), if_pos (hl.mpr q), if_pos ⟨d, hl.mpr q⟩] at h1
      have e : F.O.length + 1 = nI (F.O.n + 1) := by
        conv => lhs; rw [ho.1]
        exact nI_1 _
      rw [e] at h1
      have hc : chr c := by
        have d2 := d
        simp only [inR, decide_eq_true_eq] at d2
        exact (chr_of d2.1 d2.2).1
      refine Both.mk h1 (so_now _ _) h2 (h.same.sO ?_ ?_ rfl rfl ?_ rfl)
      · have en : OT.n ((F.O.sText (upd F.O.text F.O.n c)).sLength (nI (F.O.n + 1))) = F.O.n + 1 := nI_clamp (by have := ho.2.1; omega)
        show isN (nI (F.O.n + 1)) (OT.n ((F.O.sText (upd F.O.text F.O.n c)).sLength (nI (F.O.n + 1)))) 60
        rw [en]
        exact ⟨rfl, by have := ho.2.1; omega, by omega⟩
      · intro i hi2
        show chr (upd F.O.text F.O.n c i)
        unfold upd
        split
        · exact hc
        · exact h.1.2.2.2.2 i hi2
      · show upd M.text F.O.n c = upd F.O.text F.O.n c
        rw [h.2.2.2.2.1]
  · have d2 := bnot d
    rw [if_pos d2, if_pos (Or.inl d2)] at h2
    rw [if_pos d2, if_neg (fun z => d z.1)] at h1
    exact Both.mk h1 rfl h2 h.same
theorem st_clearText (h : Rel (n + RM) F M)  : Both n yX6_clearText cX6_clearText 2 0 yX7_clearText cX7_clearText 2 0 [] F M := by
  have h1 := con_X6_clearText F
  have h2 := cona_X7_clearText F.now M false
  rw [h.2.2.2.2.2] at h2
  refine Both.mk h1 (so_now _ _) h2 (h.same.sO ?_ ?_ rfl rfl h.2.2.2.2.1 rfl)
  · exact ⟨rfl, Nat.zero_le _, by omega⟩
  · exact h.1.2.2.2.2
end
