/-! ===== what holds of the pumps besides: who runs is in service, all but the variable one at full speed, the minutes ===== -/
def PT.row1 (S : PT) (t : Int) (i : Nat) : Prop := rng (S.kinds i) 0 2 ∧ (S.speeds i = 0 ∨ S.inService i = 1) ∧ (S.speeds i = 0 ∨ S.speeds i = 1000 ∨ S.vrb = nI i) ∧ (S.vrb = nI i → rng (S.speeds i) 300 1000) ∧ 0 ≤ (S.since i).toInt ∧ (S.since i).toInt ≤ (S.minutes i).toInt ∧ (S.minutes i).toInt ≤ t
def PT.snd (t : Int) (S : PT) : Prop := ∀ i, i < S.n → S.row1 t i
theorem r1000 : rng 1000 300 1000 := ⟨by decide, by decide⟩
theorem PT.snd_mk {S : PT} {t : Int} (h : S.snd t) {f g : Nat → Int32} {x : Int32} (hg : ∀ i, i < S.n → (g i = 0 ∨ S.inService i = 1) ∧ (g i = 0 ∨ g i = 1000 ∨ x = nI i) ∧ (x = nI i → rng (g i) 300 1000)) : (((S.sStarts f).sSpeeds g).sVrb x).snd t := fun i hi => ⟨(h i hi).1, (hg i hi).1, (hg i hi).2.1, (hg i hi).2.2, (h i hi).2.2.2.2⟩
theorem PT.snd_mk2 {S : PT} {t : Int} (h : S.snd t) {g s : Nat → Int32} {x : Int32} (hg : ∀ i, i < S.n → (g i = 0 ∨ S.inService i = 1) ∧ (g i = 0 ∨ g i = 1000 ∨ x = nI i) ∧ (x = nI i → rng (g i) 300 1000) ∧ 0 ≤ (s i).toInt ∧ (s i).toInt ≤ (S.minutes i).toInt) : (((S.sSpeeds g).sSince s).sVrb x).snd t := fun i hi => ⟨(h i hi).1, (hg i hi).1, (hg i hi).2.1, (hg i hi).2.2.1, (hg i hi).2.2.2.1, (hg i hi).2.2.2.2, (h i hi).2.2.2.2.2.2⟩
theorem PT.inj {S : PT} (h : S.ok) {p i : Nat} (hp : p < S.n) (hi : i < S.n) (e : nI p = nI i) : p = i := by
  have h1 := (ixs h hp).2.1
  have h2 := (ixs h hi).2.1
  rw [← h1, e, h2]
theorem PT.start_snd {S : PT} {t : Int} {p : Nat} {v : Int32} (hI : S.inv) (h : S.snd t) (hp : p < S.n) (hr : S.inService p = 1) (hv : rng v 300 1000) : (S.start (nI p) v).snd t := by
  have hh := PT.n_has hI.1 hp
  have hc : (nI p).toNatClampNeg = p := (ixs hI.1 hp).2.1
  have old : ∀ i, i < S.n → i ≠ p → ¬ S.vrb = nI i → (S.speeds i = 0 ∨ S.inService i = 1) ∧ (S.speeds i = 0 ∨ S.speeds i = 1000 ∨ nI p = nI i) ∧ (nI p = nI i → rng (S.speeds i) 300 1000) := fun i hi e q => by
    refine ⟨(h i hi).2.1, ?_, fun z => absurd (PT.inj hI.1 hp hi z).symm e⟩
    rcases (h i hi).2.2.1 with a | a | a
    · exact Or.inl a
    · exact Or.inr (Or.inl a)
    · exact absurd a q
  unfold PT.start
  rw [if_neg (by rw [hh]; decide), hc]
  dsimp only
  split
  · refine PT.snd_mk (g := upd S.speeds p 1000) (x := S.vrb) h fun i hi => ?_
    by_cases e : i = p
    · subst e
      rw [upd_at]
      exact ⟨Or.inr hr, Or.inr (Or.inl rfl), fun _ => r1000⟩
    · rw [upd_off _ _ e]
      exact ⟨(h i hi).2.1, (h i hi).2.2.1, (h i hi).2.2.2.1⟩
  · split
    · rename_i hv1
      obtain ⟨w, h1, h2, h3, h4, h5⟩ := PT.vok_lt hI hv1
      rw [h3]
      refine PT.snd_mk (g := upd (upd (upd S.speeds p 1000) w 1000) p v) (x := nI p) h fun i hi => ?_
      by_cases e : i = p
      · subst e
        rw [upd_at]
        exact ⟨Or.inr hr, Or.inr (Or.inr rfl), fun _ => hv⟩
      · rw [upd_off _ _ e]
        by_cases q : i = w
        · subst q
          rw [upd_at]
          exact ⟨Or.inr ((h i hi).2.1.resolve_left (pos_ne h4)), Or.inr (Or.inl rfl), fun z => absurd (PT.inj hI.1 hp hi z).symm e⟩
        · rw [upd_off _ _ q, upd_off _ _ e]
          exact old i hi e (fun z => q (PT.inj hI.1 hi h1 (z.symm.trans h2)))
    · rename_i hv1
      have hv2 : S.vrb = -1 := (PT.vok_has hI).mp (by cases z : S.has S.vrb <;> simp_all)
      refine PT.snd_mk (g := upd (upd S.speeds p 1000) p v) (x := nI p) h fun i hi => ?_
      by_cases e : i = p
      · subst e
        rw [upd_at]
        exact ⟨Or.inr hr, Or.inr (Or.inr rfl), fun _ => hv⟩
      · rw [upd_off _ _ e, upd_off _ _ e]
        exact old i hi e (fun z => (ixs hI.1 hi).2.2.2.2.2 (z.symm.trans hv2))
theorem PT.stop_snd {S : PT} {t : Int} (hI : S.inv) (h : S.snd t) (p : Int32) : (S.stop p).snd t := by
  unfold PT.stop
  split
  · exact h
  · rename_i hh
    have hh : S.has p = true := by cases q : S.has p <;> simp_all
    obtain ⟨i, hi, e1, e2⟩ := PT.has_n hI.1 hh
    rw [e2]
    dsimp only
    have sin : ∀ j, j < S.n → 0 ≤ (upd S.since i 0 j).toInt ∧ (upd S.since i 0 j).toInt ≤ (S.minutes j).toInt := fun j hj => by
      have := (h j hj).2.2.2.2
      by_cases e : j = i
      · subst e
        rw [upd_at, iz.1]
        omega
      · rw [upd_off _ _ e]
        exact ⟨this.1, this.2.1⟩
    have gen : ∀ x : Int32, (∀ j, j < S.n → j ≠ i → (S.speeds j = 0 ∨ S.speeds j = 1000 ∨ x = nI j) ∧ (x = nI j → rng (S.speeds j) 300 1000)) → ¬ x = nI i → (((S.sSpeeds (upd S.speeds i 0)).sSince (upd S.since i 0)).sVrb x).snd t := by
      intro x hx hxi
      refine PT.snd_mk2 h fun j hj => ?_
      by_cases e : j = i
      · subst e
        refine ⟨Or.inl (upd_at _ _ _), Or.inl (upd_at _ _ _), fun z => absurd z hxi, sin j hj⟩
      · rw [upd_off _ _ e]
        exact ⟨(h j hj).2.1, (hx j hj e).1, (hx j hj e).2, sin j hj⟩
    split
    · rename_i hpv
      have hb : ∀ j, j < S.n → j ≠ i → S.speeds j = 0 ∨ S.speeds j = 1000 := fun j hj e => by
        rcases (h j hj).2.2.1 with a | a | a
        · exact Or.inl a
        · exact Or.inr a
        · exact absurd (PT.inj hI.1 hj hi (by rw [← a, ← hpv, e1])) e
      have nv := PT.nextVar_ok ((S.sSpeeds (upd S.speeds i 0)).sSince (upd S.since i 0))
      refine gen _ (fun j hj e => ⟨(hb j hj e).imp_right Or.inl, fun z => ?_⟩) (fun z => ?_)
      · rcases nv with q | ⟨w, w1, w2, w3, w4⟩
        · exact absurd (z.symm.trans q) (ixs hI.1 hj).2.2.2.2.2
        · have ew : w = j := PT.inj hI.1 w1 hj (w2.symm.trans z)
          subst ew
          have w5 : 0 < upd S.speeds i 0 w := w3
          rw [upd_off _ _ e] at w5
          rcases hb w hj e with a | a
          · exact absurd a (pos_ne w5)
          · rw [a]; exact r1000
      · rcases nv with q | ⟨w, w1, w2, w3, w4⟩
        · exact absurd (z.symm.trans q) (ixs hI.1 hi).2.2.2.2.2
        · have ew : w = i := PT.inj hI.1 w1 hi (w2.symm.trans z)
          subst ew
          have w5 : 0 < upd S.speeds w 0 w := w3
          rw [upd_at] at w5
          exact absurd w5 (by decide)
    · rename_i hne
      exact gen S.vrb (fun j hj e => ⟨(h j hj).2.2.1, (h j hj).2.2.2.1⟩) (fun z => hne (by rw [e1, z]))
theorem PT.stop_speeds {S : PT} (hI : S.ok) (p : Int32) (j : Nat) : (S.stop p).speeds j = 0 ∨ (S.stop p).speeds j = S.speeds j ∧ ¬ (p = nI j ∧ j < S.n) := by
  unfold PT.stop
  split
  · rename_i hh
    refine Or.inr ⟨rfl, fun z => ?_⟩
    rw [z.1, PT.n_has hI z.2] at hh
    cases hh
  · rename_i hh
    have hh : S.has p = true := by cases q : S.has p <;> simp_all
    obtain ⟨i, hi, e1, e2⟩ := PT.has_n hI hh
    have key : upd S.speeds i 0 j = 0 ∨ upd S.speeds i 0 j = S.speeds j ∧ ¬ (p = nI j ∧ j < S.n) := by
      by_cases e : j = i
      · subst e
        exact Or.inl (upd_at _ _ _)
      · exact Or.inr ⟨upd_off _ _ e, fun z => e (PT.inj hI z.2 hi (z.1.symm.trans e1))⟩
    rw [e2]
    dsimp only
    split
    · exact key
    · exact key
theorem PT.countM_snd {S : PT} {t : Int} (h : S.snd t) (ht : t + 1 ≤ 2147483000) : S.countM.snd (t + 1) ∧ S.countM.speeds = S.speeds := by
  have key := it_inv (f := PT.cm) (a := S) (n := S.n) (fun k (T : PT) => T.size = S.size ∧ T.speeds = S.speeds ∧ T.kinds = S.kinds ∧ T.inService = S.inService ∧ T.vrb = S.vrb ∧ ∀ i, i < S.n → 0 ≤ (T.since i).toInt ∧ (T.since i).toInt ≤ (T.minutes i).toInt ∧ (T.minutes i).toInt ≤ t + (if i < k then 1 else 0)) ⟨rfl, rfl, rfl, rfl, rfl, fun i hi => by
    have := (h i hi).2.2.2.2
    rw [if_neg (Nat.not_lt_zero i)]
    omega⟩ (fun k T hk hT => by
    obtain ⟨g1, g2, g3, g4, g5, g6⟩ := hT
    unfold PT.cm
    split
    · refine ⟨g1, g2, g3, g4, g5, fun i hi => ?_⟩
      have g7 := g6 i hi
      show 0 ≤ (upd T.since k (T.since k + 1) i).toInt ∧ (upd T.since k (T.since k + 1) i).toInt ≤ (upd T.minutes k (T.minutes k + 1) i).toInt ∧ (upd T.minutes k (T.minutes k + 1) i).toInt ≤ _
      by_cases e : i = k
      · subst e
        rw [if_neg (Nat.lt_irrefl i)] at g7
        rw [upd_at, upd_at, add1 (by omega), add1 (by omega), if_pos (Nat.lt_succ_self i)]
        omega
      · rw [upd_off _ _ e, upd_off _ _ e]
        refine ⟨g7.1, g7.2.1, ?_⟩
        have g8 := g7.2.2
        by_cases q : i < k
        · rw [if_pos q] at g8
          rw [if_pos (by omega)]
          exact g8
        · rw [if_neg q] at g8
          rw [if_neg (by omega)]
          exact g8
    · refine ⟨g1, g2, g3, g4, g5, fun i hi => ?_⟩
      have g7 := g6 i hi
      refine ⟨g7.1, g7.2.1, ?_⟩
      have g8 := g7.2.2
      split at g8
      · rw [if_pos (by omega)]; exact g8
      · split <;> omega)
  have ke : S.countM.size = S.size ∧ S.countM.speeds = S.speeds ∧ S.countM.kinds = S.kinds ∧ S.countM.inService = S.inService ∧ S.countM.vrb = S.vrb ∧ ∀ i, i < S.n → 0 ≤ (S.countM.since i).toInt ∧ (S.countM.since i).toInt ≤ (S.countM.minutes i).toInt ∧ (S.countM.minutes i).toInt ≤ t + (if i < S.n then 1 else 0) := key
  obtain ⟨k1, k2, k3, k4, k5, k6⟩ := ke
  refine ⟨fun i hi => ?_, k2⟩
  have hi : i < S.n := by
    unfold PT.n at hi ⊢
    rw [k1] at hi
    exact hi
  have k7 := k6 i hi
  rw [if_pos hi] at k7
  unfold PT.row1
  rw [k2, k3, k4, k5]
  exact ⟨(h i hi).1, (h i hi).2.1, (h i hi).2.2.1, (h i hi).2.2.2.1, k7⟩
theorem PT.snd_le {S : PT} {t u : Int} (h : S.snd t) (hu : t ≤ u) : S.snd u := fun i hi => ⟨(h i hi).1, (h i hi).2.1, (h i hi).2.2.1, (h i hi).2.2.2.1, (h i hi).2.2.2.2.1, (h i hi).2.2.2.2.2.1, Int.le_trans (h i hi).2.2.2.2.2.2 hu⟩
theorem PT.serv_snd {S : PT} {t : Int} (h : S.snd t) (p : Nat) {x : Int32} (hx : x = 1 ∨ S.speeds p = 0) : (S.sInService (upd S.inService p x)).snd t := fun i hi => by
  have hi : i < S.n := hi
  refine ⟨(h i hi).1, ?_, (h i hi).2.2⟩
  show S.speeds i = 0 ∨ upd S.inService p x i = 1
  by_cases e : i = p
  · subst e
    rw [upd_at]
    exact hx.symm
  · rw [upd_off _ _ e]
    exact (h i hi).2.1
/-! of the station -/
def ST.dryOk (S : ST) : Prop := ¬ S.dry = 0 → ∀ i, i < S.P.n → S.P.speeds i = 0
def ST.snd (S : ST) : Prop := S.P.snd S.time.toInt ∧ rng S.leak 0 1000 ∧ S.dryOk
def ST.wet (S : ST) : Prop := S.P.snd S.time.toInt ∧ rng S.leak 0 1000 ∧ S.dry = 0
theorem ST.wet_snd {S : ST} (h : S.wet) : S.snd := ⟨h.1, h.2.1, fun z => absurd h.2.2 z⟩
theorem ST.sE_snd {S : ST} (h : S.snd) (x : ET) : (S.sE x).snd := ⟨h.1, h.2.1, h.2.2⟩
theorem ST.sE_wet {S : ST} (h : S.wet) (x : ET) : (S.sE x).wet := ⟨h.1, h.2.1, h.2.2⟩
theorem ST.sN_snd {S : ST} (h : S.snd) (x : NT) : (S.sN x).snd := ⟨h.1, h.2.1, h.2.2⟩
theorem ST.cnts_snd {S : ST} (h : S.snd) (a b c : Int32) : (((S.sToStart a).sToStop b).sToSleep c).snd := ⟨h.1, h.2.1, h.2.2⟩
theorem ST.cnts_wet {S : ST} (h : S.wet) (a b c : Int32) : (((S.sToStart a).sToStop b).sToSleep c).wet := ⟨h.1, h.2.1, h.2.2⟩
theorem ST.dm_snd {S : ST} (h : S.snd) (x : Int32) : (S.sDryMinutes x).snd := ⟨h.1, h.2.1, h.2.2⟩
theorem ST.dry0_snd {S : ST} (h : S.snd) : (S.sDry 0).snd := ⟨h.1, h.2.1, fun z => absurd rfl z⟩
theorem ST.dryT_snd {S : ST} (h : S.snd) (h0 : ∀ i, i < S.P.n → S.P.speeds i = 0) (x y : Int32) : ((S.sDry x).sTrips y).snd := ⟨h.1, h.2.1, fun _ => h0⟩
theorem ST.trips_snd {S : ST} (h : S.snd) (x : Int32) : (S.sTrips x).snd := ⟨h.1, h.2.1, h.2.2⟩
theorem ST.sZ_snd {S : ST} (h : S.snd) (x : ZT) : (S.sZ x).snd := ⟨h.1, h.2.1, h.2.2⟩
theorem ST.level_snd {S : ST} (h : S.snd) (x : Int32) : (S.sLevel x).snd := ⟨h.1, h.2.1, h.2.2⟩
theorem ST.set_snd {S : ST} (h : S.snd) (x : Nat → Int32) : (S.sSettings x).snd := ⟨h.1, h.2.1, h.2.2⟩
theorem ST.leak_snd {S : ST} (h : S.snd) {x : Int32} (hx : rng x 0 1000) : (S.sLeak x).snd := ⟨h.1, hx, h.2.2⟩
theorem ST.sP_wet {S : ST} (h : S.wet) {x : PT} (hx : x.snd S.time.toInt) : (S.sP x).wet := ⟨hx, h.2.1, h.2.2⟩
theorem ST.sP_snd {S : ST} (h : S.snd) {x : PT} (hx : x.snd S.time.toInt) (hd : ¬ S.dry = 0 → ∀ i, i < x.n → x.speeds i = 0) : (S.sP x).snd := ⟨hx, h.2.1, hd⟩
theorem ST.event_snd {S : ST} (h : S.snd) (k p : Int32) : (S.event k p).snd := ST.sE_snd h _
theorem ST.event_wet {S : ST} (h : S.wet) (k p : Int32) : (S.event k p).wet := ST.sE_wet h _
theorem ST.start_wet {S : ST} {p : Nat} {v : Int32} (hI : S.P.inv) (h : S.wet) (hp : p < S.P.n) (hr : S.P.rdy p = true) (hv : rng v 300 1000) : (S.start (nI p) v).wet := by
  unfold ST.start
  refine ST.event_wet (ST.sP_wet h (PT.start_snd hI h.1 hp ?_ hv)) _ _
  simp only [PT.rdy, decide_eq_true_eq] at hr
  exact ((hI.2.1 p hp).2.2.2.1).resolve_left hr.1
theorem PT.stop_n (S : PT) (p : Int32) : (S.stop p).n = S.n := by
  unfold PT.n
  rw [PT.stop_size]
theorem ST.stop_snd {S : ST} (hI : S.P.inv) (h : S.snd) (p : Int32) : (S.stop p).snd := by
  unfold ST.stop
  split
  · refine ST.event_snd (ST.sP_snd h (PT.stop_snd hI h.1 p) (fun z i hi => ?_)) _ _
    rw [PT.stop_n] at hi
    rcases PT.stop_speeds hI.1 p i with q | q
    · exact q
    · exact q.1.trans (h.2.2 z i hi)
  · exact h
theorem ST.stop_wet {S : ST} (hI : S.P.inv) (h : S.wet) (p : Int32) : (S.stop p).wet := by
  unfold ST.stop
  split
  · exact ST.event_wet (ST.sP_wet h (PT.stop_snd hI h.1 p)) _ _
  · exact h
theorem ST.adjust_wet {S : ST} {n : Nat} (hI : S.inv n) (h : S.wet) : S.adjust.wet := by
  unfold ST.adjust
  split
  · exact h
  · rename_i hh
    have hh : S.P.has S.P.vrb = true := by cases q : S.P.has S.P.vrb <;> simp_all
    obtain ⟨w, h1, h2, h3, h4, h5⟩ := PT.vok_lt hI.1 hh
    rw [h3]
    have hs := hI.2.2.2.2.1.2.1
    have hx : ∀ x, rng (hold x (S.settings 4) 1000) 300 1000 := fun x => by
      refine rng_mono (hold_rng (v := x) (a := S.settings 4) (b := 1000) ?_) hs.1 (Int.le_refl _)
      rw [Int32.lt_iff_toInt_lt, iz.2.2.2.1]
      have := hs.2
      omega
    generalize hold _ (-S.settings 3) (S.settings 3) = by1
    refine ST.sP_wet h ?_
    refine PT.snd_mk (S := S.P) (f := S.P.starts) (g := upd S.P.speeds w (hold (S.P.speeds w + by1) (S.settings 4) 1000)) (x := S.P.vrb) h.1 fun i hi => ?_
    by_cases e : i = w
    · subst e
      rw [upd_at]
      exact ⟨Or.inr ((h.1 i hi).2.1.resolve_left (pos_ne h4)), Or.inr (Or.inr h2), fun _ => hx _⟩
    · rw [upd_off _ _ e]
      exact ⟨(h.1 i hi).2.1, (h.1 i hi).2.2.1, (h.1 i hi).2.2.2.1⟩
theorem ST.startO_wet {S : ST} {n : Nat} (hI : S.inv n) (h : S.wet) (hn : ¬ oI (S.P.inOrd 0) = -1) : (S.start (oI (S.P.inOrd 0)) (S.settings 4)).wet := by
  obtain ⟨i, hi⟩ := oI_some hn
  rw [hi]
  have h2 := PT.inOrd_ok hi
  exact ST.start_wet hI.1 h h2.1 h2.2 (rng_mono hI.2.2.2.2.1.2.1 (Int.le_refl _) (by decide))
theorem ST.wake_wet {S : ST} {n : Nat} (hI : S.inv n) (h : S.wet) : S.wake.wet := by
  unfold ST.wake
  split
  · exact h
  · rename_i q
    exact ST.event_wet (ST.startO_wet hI h (fun z => q (Or.inr (Or.inr z)))) _ _
theorem ST.cnt_wet {S : ST} (h : S.wet) : S.cnt.wet := by
  unfold ST.cnt
  exact ST.cnts_wet h _ _ _
theorem ST.anew_wet {S : ST} (h : S.wet) : S.anew.wet := ST.cnts_wet h 0 0 0
theorem ST.anew_snd {S : ST} (h : S.snd) : S.anew.snd := ST.cnts_snd h 0 0 0
theorem ST.cascade_wet {S : ST} {n : Nat} (hI : S.inv n) (h : S.wet) : S.cascade.wet := by
  unfold ST.cascade
  split
  · exact h
  · refine ST.anew_wet ?_
    unfold ST.cascade1
    split
    · rename_i q
      exact ST.startO_wet hI h q.1
    · split
      · exact ST.stop_wet hI.1 h _
      · exact ST.event_wet (ST.stop_wet hI.1 h _) _ _
theorem ST.rotate_wet {S : ST} {n : Nat} (hI : S.inv (n + 3)) (h : S.wet) : S.rotate.wet := by
  unfold ST.rotate
  split
  · exact h
  · rename_i q
    rcases PT.nextRot_ok hI.1 with c | ⟨i, hi, e, hr, _⟩
    · exact absurd c (fun z => q (Or.inr (Or.inr (Or.inr z))))
    · have hh : S.P.has S.P.vrb = true := by
        cases z : S.P.has S.P.vrb
        · exact absurd (Or.inr (Or.inl z)) q
        · rfl
      obtain ⟨w, h1, h2, h3, h4, h5⟩ := PT.vok_lt hI.1 hh
      have h6 := (h.1 w h1).2.2.2.1 h2
      have h7 := (hI.1.2.1 w h1).2.2.1
      rw [e, h3]
      have hpos : rng (S.P.speeds w) 1 1000 := rng_mono h6 (by decide) (Int.le_refl _)
      exact ST.stop_wet (ST.event_inv (n := n + 1) (ST.start_inv (n := n + 2) hI hi hpos) _ _).1 (ST.event_wet (ST.start_wet hI.1 h hi hr h6) _ _) _
theorem ST.second_wet {S : ST} {n : Nat} (hI : S.inv (n + 7)) (h : S.wet) : S.second.wet := by
  have i1 : S.adjust.inv (n + 7) := ST.adjust_inv hI
  have i2 : S.adjust.wake.inv (n + 5) := ST.wake_inv i1
  have i3 : S.adjust.wake.cnt.inv (n + 5) := ST.cnt_inv i2
  have i4 : S.adjust.wake.cnt.cascade.inv (n + 3) := ST.cascade_inv i3
  exact ST.rotate_wet i4 (ST.cascade_wet i3 (ST.cnt_wet (ST.wake_wet i1 (ST.adjust_wet hI h))))
theorem ST.goOn_snd {S : ST} (h : S.snd) : S.goOn.snd := by
  unfold ST.goOn
  split
  · exact ST.event_snd (ST.dry0_snd h) _ _
  · exact h
theorem ST.stopAll_snd {S : ST} {n : Nat} (hI : S.inv (n + 6)) (h : S.snd) : S.stopAll.snd ∧ ∀ i, i < S.stopAll.P.n → S.stopAll.P.speeds i = 0 := by
  have key := it_inv (f := fun p T => ST.stop T (nI p)) (a := S) (n := S.P.n) (fun k (T : ST) => k ≤ 6 → T.inv (n + (6 - k)) ∧ T.snd ∧ T.P.n = S.P.n ∧ ∀ i, i < k → T.P.speeds i = 0) (fun _ => ⟨hI, h, rfl, fun i hi => absurd hi (Nat.not_lt_zero i)⟩) (fun k T hk hT q => by
    obtain ⟨g1, g2, g3, g4⟩ := hT (by omega)
    have g5 : T.inv (n + (6 - (k + 1)) + 1) := by
      rw [show n + (6 - k) = n + (6 - (k + 1)) + 1 by omega] at g1
      exact g1
    have g6 : (T.stop (nI k)).P.n = T.P.n := by
      unfold PT.n
      rw [ST.stop_size]
    refine ⟨ST.stop_inv g5 _, ST.stop_snd g1.1 g2 _, g6.trans g3, fun i hi => ?_⟩
    by_cases e : i = k
    · subst e
      unfold ST.stop
      split
      · show (T.P.stop (nI i)).speeds i = 0
        rcases PT.stop_speeds g1.1.1 (nI i) i with z | z
        · exact z
        · exact absurd ⟨rfl, by rw [g3]; exact hk⟩ z.2
      · rename_i z
        have hk' : i < T.P.n := by rw [g3]; exact hk
        have z1 : T.P.runs (nI i) = T.P.run i := by
          unfold PT.runs
          rw [PT.n_has g1.1.1 hk', (ixs g1.1.1 hk').2.1, Bool.true_and]
        rw [z1] at z
        have z2 := (g1.1.2.1 i hk').2.2.1
        simp only [PT.run, decide_eq_true_eq, Int32.lt_iff_toInt_lt, iz.1] at z
        apply Int32.toInt_inj.mp
        rw [iz.1]
        have := z2.1
        omega
    · have e0 := g4 i (by omega)
      unfold ST.stop
      split
      · show (T.P.stop (nI k)).speeds i = 0
        rcases PT.stop_speeds g1.1.1 (nI k) i with z | z
        · exact z
        · exact z.1.trans e0
      · exact e0)
  have ke := key hI.1.1.2.1
  refine ⟨ke.2.1, fun i hi => ke.2.2.2 i ?_⟩
  have hh : S.stopAll.P.n = S.P.n := ke.2.2.1
  rw [hh] at hi
  exact hi
theorem ST.level2_snd {S : ST} {n : Nat} (hI : S.inv (n + 7)) (h : S.snd) : S.level2.snd := by
  unfold ST.level2
  split
  · have h1 := ST.stopAll_snd (n := n + 1) hI h
    exact ST.event_snd (ST.dryT_snd h1.1 h1.2 _ _) _ _
  · exact h
theorem ST.watchL_snd {S : ST} {n : Nat} (hI : S.inv (n + 8)) (h : S.snd) : S.watchL.snd := by
  have h1 : S.level1.inv (n + 8) := ST.dm_inv hI _
  have h2 : S.level1.level2.snd := ST.level2_snd (n := n + 1) h1 (ST.dm_snd h _)
  unfold ST.watchL ST.level3
  split
  · exact ST.goOn_snd h2
  · exact h2
theorem ST.night_snd {S : ST} (h : S.snd) : S.night.snd := by
  have h1 : S.night1.snd := ST.sN_snd h _
  have h2 : S.night2.snd := by
    unfold ST.night2
    split
    · exact ST.event_snd (ST.sN_snd h1 _) _ _
    · exact h1
  unfold ST.night
  split
  · exact h
  · split
    · exact h1
    · exact ST.sN_snd h2 _
theorem ST.tw_snd {S : ST} {n : Nat} (hI : S.inv (n + 1)) (h : S.snd) : S.tick.water.snd := by
  have hb := hI.2.2.2.2.2.2.2.2.2
  have et : (S.time + 1).toInt = S.time.toInt + 1 := add1 (by omega)
  have hc := PT.countM_snd h.1 (by omega)
  have e1 : S.tick.water.P = S.P.countM := by
    unfold ST.water
    split <;> rfl
  have e2 : S.tick.water.time = S.time + 1 := by
    unfold ST.water
    split <;> rfl
  have e3 : S.tick.water.leak = S.leak := by
    unfold ST.water
    split <;> rfl
  have e4 : S.tick.water.dry = S.dry := by
    unfold ST.water
    split <;> rfl
  refine ⟨?_, ?_, ?_⟩
  · rw [e1, e2, et]; exact hc.1
  · rw [e3]; exact h.2.1
  · unfold ST.dryOk
    rw [e1, e4, hc.2]
    intro z i hi
    refine h.2.2 z i ?_
    unfold PT.n at hi ⊢
    rw [PT.countM_size] at hi
    exact hi
theorem ST.minute_snd {S : ST} {n : Nat} (hI : S.inv (n + 17)) (h : S.snd) : S.minute.snd := by
  have i1 : S.tick.water.night.inv (n + 15) := ST.night_inv (ST.water_inv (ST.tick_inv hI))
  have h1 : S.first.snd := ST.watchL_snd (n := n + 7) i1 (ST.night_snd (ST.tw_snd (n := n + 16) hI h))
  have i2 : S.first.inv (n + 7) := ST.first_inv hI
  unfold ST.minute
  split
  · exact ST.anew_snd h1
  · rename_i q
    refine ST.wet_snd (ST.second_wet i2 ⟨h1.1, h1.2.1, ?_⟩)
    by_cases z : S.first.dry = 0
    · exact z
    · exact absurd z q
theorem ST.mins_snd {S : ST} {n : Nat} (h : S.snd) : ∀ k, S.inv (17 * k + n) → (S.mins k).snd
  | 0, _ => by simpa [ST.mins, it] using h
  | k + 1, hI => by
    rw [ST.mins_succ]
    refine ST.minute_snd (n := n) (ST.mins_inv k (n := n + 17) ?_) (ST.mins_snd (n := n + 17) h k ?_)
    · rw [show 17 * k + (n + 17) = 17 * (k + 1) + n by omega]; exact hI
    · rw [show 17 * k + (n + 17) = 17 * (k + 1) + n by omega]; exact hI
theorem ST.change_snd {S : ST} {n : Nat} (hI : S.inv n) (h : S.snd) {p : Int32} (hh : S.P.has p = true) {is : Int32} (hi : b01 is) : (S.change p is).snd := by
  obtain ⟨i, hi2, e1, e2⟩ := PT.has_n hI.1.1 hh
  unfold ST.change ST.chg
  rw [e2]
  rcases hi with rfl | rfl
  · rw [if_pos rfl]
    have hr : (S.sP (S.P.sInService (upd S.P.inService i 0))).P.runs p = S.P.runs p := rfl
    unfold ST.stop
    rw [hr]
    split
    · have es : (S.P.sInService (upd S.P.inService i 0)).stop p = (S.P.stop p).sInService (upd S.P.inService i 0) := by
        have q1 : (S.P.sInService (upd S.P.inService i 0)).has p = true := hh
        unfold PT.stop
        rw [if_neg (show ¬ (S.P.sInService (upd S.P.inService i 0)).has p = false by rw [q1]; decide), if_neg (show ¬ S.P.has p = false by rw [hh]; decide)]
        dsimp only
        by_cases c : p = S.P.vrb
        · rw [if_pos c, if_pos (show p = (S.P.sInService (upd S.P.inService i 0)).vrb from c)]
          rfl
        · rw [if_neg c, if_neg (show ¬ p = (S.P.sInService (upd S.P.inService i 0)).vrb from c)]
          rfl
      have ei : (S.P.stop p).inService = S.P.inService := PT.stop_serv _ _
      have g1 : ((S.P.stop p).sInService (upd S.P.inService i 0)).snd S.time.toInt := by
        rw [← ei]
        refine PT.serv_snd (PT.stop_snd hI.1 h.1 p) i (Or.inr ?_)
        rcases PT.stop_speeds hI.1.1 p i with q | q
        · exact q
        · exact absurd ⟨e1, hi2⟩ q.2
      have g2 : ¬ S.dry = 0 → ∀ j, j < ((S.P.stop p).sInService (upd S.P.inService i 0)).n → ((S.P.stop p).sInService (upd S.P.inService i 0)).speeds j = 0 := fun z j hj => by
        have hj : j < (S.P.stop p).n := hj
        rw [PT.stop_n] at hj
        show (S.P.stop p).speeds j = 0
        rcases PT.stop_speeds hI.1.1 p j with q | q
        · exact q
        · exact q.1.trans (h.2.2 z j hj)
      have e3 : (S.sP (S.P.sInService (upd S.P.inService i 0))).P = S.P.sInService (upd S.P.inService i 0) := rfl
      have e4 : ∀ x y : PT, (S.sP x).sP y = S.sP y := fun _ _ => rfl
      rw [e3, es, e4]
      exact ST.event_snd (ST.sP_snd h g1 g2) _ _
    · rename_i q
      refine ST.sP_snd h (PT.serv_snd h.1 i (Or.inr ?_)) (fun z j hj => h.2.2 z j hj)
      have z1 : S.P.runs p = S.P.run i := by
        unfold PT.runs
        rw [hh, e2, Bool.true_and]
      rw [z1] at q
      have z2 := (hI.1.2.1 i hi2).2.2.1
      simp only [PT.run, decide_eq_true_eq, Int32.lt_iff_toInt_lt, iz.1] at q
      apply Int32.toInt_inj.mp
      rw [iz.1]
      have := z2.1
      omega
  · rw [if_neg (by decide)]
    exact ST.sP_snd h (PT.serv_snd h.1 i (Or.inl rfl)) (fun z j hj => h.2.2 z j hj)
