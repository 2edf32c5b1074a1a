/-! ===== class and reference: what ties them ===== -/
def Rel (n : Nat) (F : FT) (M : MT) : Prop := F.good ∧ F.now.inv n ∧ M.savedMany = F.states ∧ (∀ i, i < F.k → (F.hAt (F.pAt i)).inv n ∧ ∀ j, j < 170 → M.saved (170 * i + j) = abs (F.hAt (F.pAt i)) j) ∧ M.text = F.O.text ∧ M.textLong = F.O.length
theorem Rel.le {n m : Nat} {F : FT} {M : MT} (h : Rel n F M) (hm : m ≤ n) : Rel m F M := ⟨h.1, ST.inv_le h.2.1 hm, h.2.2.1, fun i hi => ⟨ST.inv_le (h.2.2.2.1 i hi).1 hm, (h.2.2.2.1 i hi).2⟩, h.2.2.2.2⟩
theorem Rel.k {n : Nat} {F : FT} {M : MT} (h : Rel n F M) : M.k = F.k ∧ isN M.savedMany M.k 4 := by
  have e : M.k = F.k := by unfold MT.k FT.k; rw [h.2.2.1]
  refine ⟨e, ?_⟩
  rw [e, h.2.2.1]
  exact h.1.1.2
theorem Rel.t {n : Nat} {F : FT} {M : MT} (h : Rel n F M) : M.tn = F.O.n ∧ isN M.textLong M.tn 60 := by
  have e : M.tn = F.O.n := by unfold MT.tn OT.n; rw [h.2.2.2.2.2]
  refine ⟨e, ?_⟩
  rw [e, h.2.2.2.2.2]
  exact h.1.2.2.2.1
theorem hAt_hPut (F : FT) {a b : Nat} (ha : isH a) (hb : isH b) (x : ST) : (F.hPut a x).hAt b = if b = a then x else F.hAt b := by
  rcases ha with rfl | rfl | rfl | rfl <;> rcases hb with rfl | rfl | rfl | rfl <;> rfl
theorem pAt_ok {F : FT} (h : F.pOk) : (∀ i, i < 4 → F.perm i = some (F.pAt i) ∧ isH (F.pAt i)) ∧ ∀ i j, i < 4 → j < 4 → F.pAt i = F.pAt j → i = j := by
  obtain ⟨p, h1, h2⟩ := h
  have e : ∀ i, i < 4 → F.pAt i = p i := fun i hi => by unfold FT.pAt; rw [(h1 i hi).1]; rfl
  refine ⟨fun i hi => by rw [e i hi]; exact h1 i hi, fun i j hi hj hij => h2 i j hi hj (by rw [← e i hi, ← e j hj]; exact hij)⟩
theorem hist_rem1 {F : FT} (h : F.histOk) (hk : F.k < 4) : F.rem1.histOk ∧ F.rem1.k = F.k + 1 ∧ (∀ i, i < F.k → F.rem1.hAt (F.rem1.pAt i) = F.hAt (F.pAt i)) ∧ F.rem1.hAt (F.rem1.pAt F.k) = F.now := by
  obtain ⟨hp, hs⟩ := h
  obtain ⟨q1, q2⟩ := pAt_ok hp
  have e1 : F.rem1.perm = F.perm := by
    show (F.hPut (F.pAt F.k) F.now).perm = F.perm
    exact hPut_eq.2.2.2.2.1 _ _ _
  have e2 : ∀ i, F.rem1.pAt i = F.pAt i := fun i => by unfold FT.pAt; rw [e1]
  have e3 : F.rem1.states = F.states + 1 := rfl
  have e3' : F.rem1.states = nI (F.k + 1) := by
    rw [e3]
    conv => lhs; rw [hs.1]
    exact nI_1 _
  have e4 : F.rem1.k = F.k + 1 := by
    show F.rem1.states.toNatClampNeg = F.k + 1
    rw [e3', nI_clamp (by omega)]
  have e5 : ∀ b, F.rem1.hAt b = (F.hPut (F.pAt F.k) F.now).hAt b := fun b => hPut_eq.2.2.2.2.2.2.2.2.1 _ _ _
  refine ⟨⟨?_, ?_⟩, e4, fun i hi => ?_, ?_⟩
  · obtain ⟨p, h1, h2⟩ := hp
    exact ⟨p, by rw [e1]; exact h1, h2⟩
  · rw [e4, e3']
    exact ⟨rfl, by omega, by omega⟩
  · rw [e2, e5, hAt_hPut F (q1 F.k hk).2 (q1 i (by omega)).2, if_neg]
    intro z
    have := q2 i F.k (by omega) hk z
    omega
  · rw [e2, e5, hAt_hPut F (q1 F.k hk).2 (q1 F.k hk).2, if_pos rfl]
theorem hist_rot {F : FT} (h : F.histOk) : F.rot.histOk ∧ F.rot.k = 3 ∧ (∀ i, i < 3 → F.rot.hAt (F.rot.pAt i) = F.hAt (F.pAt (i + 1))) := by
  obtain ⟨hp, hs⟩ := h
  obtain ⟨q1, q2⟩ := pAt_ok hp
  have e0 : ∀ i, F.rot.perm i = if i = 3 then F.perm 0 else if i = 2 then F.perm 3 else if i = 1 then F.perm 2 else if i = 0 then F.perm 1 else F.perm i := fun i => rfl
  have e1 : ∀ i, i < 3 → F.rot.perm i = F.perm (i + 1) := fun i hi => by
    rw [e0]
    match i, hi with
    | 0, _ => rfl
    | 1, _ => rfl
    | 2, _ => rfl
  have e3 : F.rot.perm 3 = F.perm 0 := by rw [e0]; rfl
  have e2 : ∀ i, i < 3 → F.rot.pAt i = F.pAt (i + 1) := fun i hi => by unfold FT.pAt; rw [e1 i hi]
  refine ⟨⟨⟨fun i => if i = 3 then F.pAt 0 else F.pAt (i + 1), fun i hi => ?_, fun i j hi hj hij => ?_⟩, ⟨rfl, by rw [show F.rot.k = 3 from rfl]; omega, by omega⟩⟩, rfl, fun i hi => ?_⟩
  · dsimp only
    by_cases c : i = 3
    · subst c
      rw [e3, if_pos rfl]
      exact q1 0 (by omega)
    · rw [if_neg c, e1 i (by omega)]
      exact q1 (i + 1) (by omega)
  · dsimp only at hij
    by_cases c : i = 3
    · by_cases d : j = 3
      · omega
      · rw [if_pos c, if_neg d] at hij
        have := q2 0 (j + 1) (by omega) (by omega) hij
        omega
    · by_cases d : j = 3
      · rw [if_neg c, if_pos d] at hij
        have := q2 (i + 1) 0 (by omega) (by omega) hij
        omega
      · rw [if_neg c, if_neg d] at hij
        have := q2 (i + 1) (j + 1) (by omega) (by omega) hij
        omega
  · rw [e2 i hi]
    rfl
theorem hist_rem {F : FT} (h : F.histOk) : F.remember.histOk ∧ (F.k < 4 → F.remember.k = F.k + 1 ∧ (∀ i, i < F.k → F.remember.hAt (F.remember.pAt i) = F.hAt (F.pAt i)) ∧ F.remember.hAt (F.remember.pAt F.k) = F.now) ∧ (¬ F.k < 4 → F.remember.k = 4 ∧ (∀ i, i < 3 → F.remember.hAt (F.remember.pAt i) = F.hAt (F.pAt (i + 1))) ∧ F.remember.hAt (F.remember.pAt 3) = F.now) := by
  have hc : F.states < 4 ↔ F.k < 4 := by
    have := h.2.2.1
    conv => lhs; rw [h.2.1]
    rw [show (4 : Int32) = nI 4 from rfl, nI_ltI (by omega) (by omega)]
  unfold FT.remember
  by_cases c : F.k < 4
  · rw [if_pos (hc.mpr c)]
    obtain ⟨a1, a2, a3, a4⟩ := hist_rem1 h c
    exact ⟨a1, fun _ => ⟨a2, a3, a4⟩, fun z => absurd c z⟩
  · rw [if_neg (fun z => c (hc.mp z))]
    obtain ⟨b1, b2, b3⟩ := hist_rot h
    obtain ⟨a1, a2, a3, a4⟩ := hist_rem1 b1 (by rw [b2]; omega)
    rw [b2] at a2 a3 a4
    refine ⟨a1, fun z => absurd z c, fun _ => ⟨a2, fun i hi => ?_, a4⟩⟩
    rw [a3 i hi, b3 i hi]
theorem hPut_bits {F : FT} (hb : F.h0.bits ∧ F.h1.bits ∧ F.h2.bits ∧ F.h3.bits) (k : Nat) {x : ST} (hx : x.bits) : (F.hPut k x).h0.bits ∧ (F.hPut k x).h1.bits ∧ (F.hPut k x).h2.bits ∧ (F.hPut k x).h3.bits := by
  obtain ⟨b0, b1, b2, b3⟩ := hb
  unfold FT.hPut
  (repeat' split)
  · exact ⟨hx, b1, b2, b3⟩
  · exact ⟨b0, hx, b2, b3⟩
  · exact ⟨b0, b1, hx, b3⟩
  · exact ⟨b0, b1, b2, hx⟩
theorem rem_bits {F : FT} (hb : F.h0.bits ∧ F.h1.bits ∧ F.h2.bits ∧ F.h3.bits) (hn : F.now.bits) : F.remember.h0.bits ∧ F.remember.h1.bits ∧ F.remember.h2.bits ∧ F.remember.h3.bits := by
  unfold FT.remember
  split
  · exact hPut_bits hb _ hn
  · exact hPut_bits (F := F.rot) hb _ hn
/-- what of the reference's fields the tie speaks of -/
def MT.kr (M T : MT) : Prop := T.saved = M.saved ∧ T.savedMany = M.savedMany ∧ T.text = M.text ∧ T.textLong = M.textLong
theorem Rel.kr {n : Nat} {F : FT} {M T : MT} (h : Rel n F M) (e : M.kr T) : Rel n F T := by
  obtain ⟨e1, e2, e3, e4⟩ := e
  refine ⟨h.1, h.2.1, ?_, fun i hi => ⟨(h.2.2.2.1 i hi).1, fun j hj => ?_⟩, ?_, ?_⟩
  · rw [e2]; exact h.2.2.1
  · rw [e1]; exact (h.2.2.2.1 i hi).2 j hj
  · rw [e3]; exact h.2.2.2.2.1
  · rw [e4]; exact h.2.2.2.2.2
theorem saveA_at {n : Nat} {F : FT} {M : MT} (h : Rel n F M) : (F.k < 4 → (M.saveA F.now).savedMany = nI (F.k + 1) ∧ ∀ i j, i ≤ F.k → j < 170 → (M.saveA F.now).saved (170 * i + j) = if i = F.k then abs F.now j else M.saved (170 * i + j)) ∧ (¬ F.k < 4 → (M.saveA F.now).savedMany = 4 ∧ ∀ i j, i < 4 → j < 170 → (M.saveA F.now).saved (170 * i + j) = if i = 3 then abs F.now j else M.saved (170 * (i + 1) + j)) := by
  have hk := h.k.1
  unfold MT.saveA
  rw [hk]
  refine ⟨fun c => ?_, fun c => ?_⟩
  · rw [if_pos c]
    refine ⟨rfl, fun i j hi hj => ?_⟩
    show cp (170 * F.k) 0 (abs F.now) M.saved 170 (170 * i + j) = _
    rw [cp_at]
    by_cases d : i = F.k
    · rw [if_pos d, if_pos (by rw [d]; omega), d, show 0 + (170 * F.k + j - 170 * F.k) = j by omega]
    · rw [if_neg d, if_neg (by omega)]
  · rw [if_neg c]
    refine ⟨rfl, fun i j hi hj => ?_⟩
    show cp 510 0 (abs F.now) (sft M.saved 510) 170 (170 * i + j) = _
    rw [cp_at]
    by_cases d : i = 3
    · rw [if_pos d, if_pos (by omega), d, show 0 + (170 * 3 + j - 510) = j by omega]
    · rw [if_neg d, if_neg (by omega), sft_at, if_pos (by omega), show 170 * i + j + 170 = 170 * (i + 1) + j by omega]
theorem Rel.rem {n : Nat} {F : FT} {M : MT} (h : Rel n F M) {T : ST} (hT : T.inv n) : Rel n (F.remember.sNow T) (M.saveA F.now) := by
  obtain ⟨r1, r2, r3⟩ := hist_rem h.1.1
  obtain ⟨s1, s2⟩ := saveA_at h
  have hO : (F.remember.sNow T).O = F.O := rmb_eq0.2.2 F
  have hk : (F.remember.sNow T).k = F.remember.k := rfl
  have hh : ∀ i, (F.remember.sNow T).hAt ((F.remember.sNow T).pAt i) = F.remember.hAt (F.remember.pAt i) := fun i => hPut_eq.2.2.2.2.2.2.2.1 _ _ _
  have hb := rem_bits h.1.2.2.1 (ST.inv_bits h.2.1)
  refine ⟨⟨r1, ST.inv_okk hT, hb, ?_, ?_⟩, hT, ?_, fun i hi => ?_, ?_, ?_⟩
  · rw [hO]; exact h.1.2.2.2.1
  · rw [hO]; exact h.1.2.2.2.2
  · have e : (F.remember.sNow T).states = F.remember.states := rfl
    rw [e, r1.2.1]
    by_cases c : F.k < 4
    · rw [(r2 c).1, (s1 c).1]
    · rw [(r3 c).1, (s2 c).1]
      rfl
  · rw [hh]
    rw [hk] at hi
    by_cases c : F.k < 4
    · obtain ⟨a1, a2, a3⟩ := r2 c
      rw [a1] at hi
      by_cases d : i = F.k
      · rw [d, a3]
        refine ⟨h.2.1, fun j hj => ?_⟩
        rw [(s1 c).2 F.k j (by omega) hj, if_pos rfl]
      · rw [a2 i (by omega)]
        refine ⟨(h.2.2.2.1 i (by omega)).1, fun j hj => ?_⟩
        rw [(s1 c).2 i j (by omega) hj, if_neg d]
        exact (h.2.2.2.1 i (by omega)).2 j hj
    · obtain ⟨a1, a2, a3⟩ := r3 c
      have hk4 : F.k = 4 := by have := h.1.1.2.2.1; omega
      rw [a1] at hi
      by_cases d : i = 3
      · rw [d, a3]
        refine ⟨h.2.1, fun j hj => ?_⟩
        rw [(s2 c).2 3 j (by omega) hj, if_pos rfl]
      · rw [a2 i (by omega)]
        refine ⟨(h.2.2.2.1 (i + 1) (by omega)).1, fun j hj => ?_⟩
        rw [(s2 c).2 i j (by omega) hj, if_neg d]
        exact (h.2.2.2.1 (i + 1) (by omega)).2 j hj
  · rw [hO, (saveA_txt M F.now).1]; exact h.2.2.2.2.1
  · rw [hO, (saveA_txt M F.now).2]; exact h.2.2.2.2.2
