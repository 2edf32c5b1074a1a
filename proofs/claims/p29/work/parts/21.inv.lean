/-! ===== states that are sound stay so ===== -/
theorem iz : (0 : Int32).toInt = 0 ∧ (1 : Int32).toInt = 1 ∧ (-1 : Int32).toInt = -1 ∧ (1000 : Int32).toInt = 1000 ∧ (2000 : Int32).toInt = 2000 ∧ (20000 : Int32).toInt = 20000 ∧ (1000000 : Int32).toInt = 1000000 ∧ (100 : Int32).toInt = 100 := ⟨rfl, rfl, rfl, rfl, rfl, rfl, rfl, rfl⟩
theorem rng_lt {x : Int32} {a b : Int} (h : rng x a b) (ha : 0 < a) : 0 < x := by
  rw [Int32.lt_iff_toInt_lt, iz.1]
  exact Int.lt_of_lt_of_le ha h.1
theorem rng_mono {x : Int32} {a b c d : Int} (h : rng x a b) (h1 : c ≤ a) (h2 : b ≤ d) : rng x c d := ⟨Int.le_trans h1 h.1, Int.le_trans h.2 h2⟩
def setOk (f : Nat → Int32) : Prop := rng (f 3) 0 500 ∧ rng (f 4) 300 900 ∧ rng (f 6) 1 60 ∧ rng (f 8) 1 60 ∧ rng (f 10) 1 200 ∧ rng (f 14) 0 1000
def ET.inv (n : Nat) (t : Int32) (S : ET) : Prop := 0 ≤ S.all.toInt ∧ S.all.toInt + n ≤ 2147483000 ∧ ∀ k, k < 8 → (S.latest k).toInt ≤ t.toInt
def ST.inv (n : Nat) (S : ST) : Prop := S.P.inv ∧ S.Z.inv ∧ S.N.ok ∧ b01 S.dry ∧ setOk S.settings ∧ rng S.pressure 0 2000 ∧ rng S.level 0 20000 ∧ S.E.inv n S.time ∧ 0 ≤ S.time.toInt ∧ S.time.toInt + n ≤ 2147483000
theorem ST.inv_le {S : ST} {m n : Nat} (h : S.inv n) (hm : m ≤ n) : S.inv m := by
  obtain ⟨h1, h2, h3, h4, h5, h6, h7, ⟨h8, h9, h10⟩, h11, h12⟩ := h
  exact ⟨h1, h2, h3, h4, h5, h6, h7, ⟨h8, by omega, h10⟩, h11, by omega⟩
theorem ST.inv_ok {S : ST} {n : Nat} (h : S.inv n) : S.ok := ⟨h.1.1, h.2.1.1, h.2.2.1⟩
theorem PT.inv_bits {S : PT} (h : S.inv) : S.bits := fun i hi => by
  rcases Nat.lt_or_ge i S.n with q | q
  · exact (h.2.1 i q).2.2.2.1
  · exact Or.inl (h.2.2.1 i q hi 3 (by decide))
theorem ST.inv_bits {S : ST} {n : Nat} (h : S.inv n) : S.bits := ⟨PT.inv_bits h.1, h.2.1.2.1, h.2.2.2.1⟩
theorem ST.inv_okk {S : ST} {n : Nat} (h : S.inv n) : S.okk := ⟨ST.inv_ok h, ST.inv_bits h⟩
theorem add1 {x : Int32} (h : x.toInt + 1 ≤ 2147483000) : (x + 1).toInt = x.toInt + 1 := by
  rw [Int32.toInt_add, iz.2.1]
  have := x.le_toInt
  exact Int.bmod_eq_of_le (by omega) (by omega)
theorem ET.add_inv {S : ET} {n : Nat} {t k p : Int32} (h : S.inv (n + 1) t) : (S.add k t p).inv n t := by
  obtain ⟨h8, h9, h10⟩ := h
  have h0 : ¬ S.all < 0 := by rw [Int32.lt_iff_toInt_lt, iz.1]; omega
  unfold ET.add
  rw [if_neg h0]
  have h1 : (S.all + 1).toInt = S.all.toInt + 1 := add1 (by omega)
  refine ⟨?_, ?_, fun j hj => ?_⟩
  · show 0 ≤ (S.all + 1).toInt
    omega
  · show (S.all + 1).toInt + n ≤ _
    omega
  · show (upd S.latest k.toNatClampNeg t j).toInt ≤ _
    unfold upd
    split
    · exact Int.le_refl _
    · exact h10 j hj
theorem ST.event_inv {S : ST} {n : Nat} (h : S.inv (n + 1)) (k p : Int32) : (S.event k p).inv n := by
  obtain ⟨h1, h2, h3, h4, h5, h6, h7, h8, h11, h12⟩ := h
  exact ⟨h1, h2, h3, h4, h5, h6, h7, ET.add_inv h8, h11, by show S.time.toInt + (n : Int) ≤ _; omega⟩
theorem ST.sP_inv {S : ST} {n : Nat} (h : S.inv n) {x : PT} (hx : x.inv) : (S.sP x).inv n := ⟨hx, h.2⟩
theorem PT.inv_of {S T : PT} (h : S.inv) (hs : T.size = S.size) (hr : ∀ i, i < S.n → T.rowIn i) (ho : ∀ i, S.n ≤ i → ∀ w, T.get w i = S.get w i) (hv : T.vok) : T.inv := by
  obtain ⟨h1, h2⟩ := PT.ok_of h.1 hs
  refine ⟨h1, fun i hi => hr i (h2 ▸ hi), fun i hi hi6 w hw => ?_, hv⟩
  rw [h2] at hi
  rw [ho i hi w]
  exact h.2.2.1 i hi hi6 w hw
theorem PT.mk_inv {S : PT} (h : S.inv) {f g : Nat → Int32} {x : Int32} (hf : ∀ i, S.n ≤ i → f i = S.starts i) (hg : ∀ i, g i = S.speeds i ∨ (i < S.n ∧ rng (g i) 1 1000)) (hx : x = -1 ∨ ∃ v, v < S.n ∧ x = nI v ∧ 0 < g v ∧ ¬ S.kinds v = 0) : (((S.sStarts f).sSpeeds g).sVrb x).inv := by
  refine PT.inv_of h rfl (fun i hi => ?_) (fun i hi w => ?_) hx
  · obtain ⟨h1, h2, h3, h4, h5⟩ := h.2.1 i hi
    refine ⟨h1, h2, ?_, h4, ?_⟩
    · show rng (g i) 0 1000
      rcases hg i with q | ⟨_, q⟩
      · rw [q]; exact h3
      · exact rng_mono q (by decide) (by decide)
    · show g i = 0 → S.since i = 0
      rcases hg i with q | ⟨_, q⟩
      · rw [q]; exact h5
      · exact fun e => absurd e (pos_ne (rng_lt q (by decide)))
  · unfold PT.get
    split
    · rfl
    · rfl
    · rfl
    · rfl
    · rcases hg i with q | ⟨q, _⟩
      · exact q
      · omega
    · rfl
    · rfl
    · exact hf i hi
theorem PT.vok_lt {S : PT} (h : S.inv) (hh : S.has S.vrb = true) : ∃ v, v < S.n ∧ S.vrb = nI v ∧ S.vrb.toNatClampNeg = v ∧ 0 < S.speeds v ∧ ¬ S.kinds v = 0 := by
  rcases h.2.2.2 with q | ⟨v, h1, h2, h3, h4⟩
  · rw [q] at hh; simp [PT.has] at hh
  · exact ⟨v, h1, h2, by rw [h2]; exact (ixs h.1 h1).2.1, h3, h4⟩
theorem PT.vok_has {S : PT} (h : S.inv) : S.has S.vrb = false ↔ S.vrb = -1 := by
  rcases h.2.2.2 with q | ⟨v, h1, h2, h3, h4⟩
  · rw [q]; simp [PT.has]
  · rw [h2, PT.n_has h.1 h1]
    have := (ixs h.1 h1).2.2.2.2.2
    simp [this]
theorem PT.start_inv {S : PT} {p : Nat} {v : Int32} (h : S.inv) (hp : p < S.n) (hv : rng v 1 1000) : (S.start (nI p) v).inv := by
  have hh := PT.n_has h.1 hp
  have hc : (nI p).toNatClampNeg = p := (ixs h.1 hp).2.1
  have r1000 : rng 1000 1 1000 := ⟨by decide, by decide⟩
  have hf : ∀ i, S.n ≤ i → upd S.starts p (S.starts p + 1) i = S.starts i := fun i hi => upd_off _ _ (by omega)
  have hg : ∀ (g : Nat → Int32) (k : Nat) (x : Int32), k < S.n → rng x 1 1000 → (∀ i, g i = S.speeds i ∨ (i < S.n ∧ rng (g i) 1 1000)) → ∀ i, upd g k x i = S.speeds i ∨ (i < S.n ∧ rng (upd g k x i) 1 1000) := by
    intro g k x hk hx hg i
    unfold upd
    split
    · rename_i e; subst e; exact Or.inr ⟨hk, hx⟩
    · exact hg i
  have hpos : ∀ (g : Nat → Int32) (k : Nat) (x : Int32) (j : Nat), rng x 1 1000 → 0 < g j → 0 < upd g k x j := by
    intro g k x j hx hj
    unfold upd
    split
    · exact rng_lt hx (by decide)
    · exact hj
  unfold PT.start
  rw [if_neg (by rw [hh]; decide), hc]
  dsimp only
  split
  · refine PT.mk_inv (g := upd S.speeds p 1000) h hf (hg _ p _ hp r1000 (fun i => Or.inl rfl)) (x := S.vrb) ?_
    rcases h.2.2.2 with q | ⟨w, h1, h2, h3, h4⟩
    · exact Or.inl q
    · exact Or.inr ⟨w, h1, h2, hpos _ _ _ _ r1000 h3, h4⟩
  · rename_i hk
    split
    · rename_i hv1
      obtain ⟨w, h1, h2, h3, h4, h5⟩ := PT.vok_lt h hv1
      rw [h3]
      refine PT.mk_inv (g := upd (upd (upd S.speeds p 1000) w 1000) p v) h hf (hg _ p _ hp hv (hg _ w _ h1 r1000 (hg _ p _ hp r1000 (fun i => Or.inl rfl)))) (x := nI p) ?_
      exact Or.inr ⟨p, hp, rfl, by rw [upd_at]; exact rng_lt hv (by decide), hk⟩
    · refine PT.mk_inv (g := upd (upd S.speeds p 1000) p v) h hf (hg _ p _ hp hv (hg _ p _ hp r1000 (fun i => Or.inl rfl))) (x := nI p) ?_
      exact Or.inr ⟨p, hp, rfl, by rw [upd_at]; exact rng_lt hv (by decide), hk⟩
theorem PT.nextVar_ok (S : PT) : S.nextVar = -1 ∨ ∃ v, v < S.n ∧ S.nextVar = nI v ∧ 0 < S.speeds v ∧ ¬ S.kinds v = 0 := by
  have h := it_inv (f := fun p b => if S.run p = true ∧ ¬ S.kinds p = 0 ∧ (b = -1 ∨ S.minutes p < S.minutes b.toNatClampNeg) then nI p else b) (a := (-1 : Int32)) (n := S.n) (fun _ (b : Int32) => b = -1 ∨ ∃ v, v < S.n ∧ b = nI v ∧ 0 < S.speeds v ∧ ¬ S.kinds v = 0) (Or.inl rfl) (fun i b hi hb => by
    split
    · rename_i q
      exact Or.inr ⟨i, hi, rfl, by simpa [PT.run] using q.1, q.2.1⟩
    · exact hb)
  unfold PT.nextVar
  exact h
theorem PT.stop_inv {S : PT} (h : S.inv) (p : Int32) : (S.stop p).inv := by
  unfold PT.stop
  split
  · exact h
  · rename_i hh
    have hh : S.has p = true := by cases q : S.has p <;> simp_all
    obtain ⟨i, hi, e1, e2⟩ := PT.has_n h.1 hh
    rw [e2]
    dsimp only
    have gen : ∀ x : Int32, (x = -1 ∨ ∃ v, v < S.n ∧ x = nI v ∧ 0 < upd S.speeds i 0 v ∧ ¬ S.kinds v = 0) → (((S.sSpeeds (upd S.speeds i 0)).sSince (upd S.since i 0)).sVrb x).inv := by
      intro x hx
      refine PT.inv_of h rfl (fun j hj => ?_) (fun j hj w => ?_) hx
      · obtain ⟨h1, h2, h3, h4, h5⟩ := h.2.1 j hj
        refine ⟨h1, h2, ?_, h4, ?_⟩
        · show rng (upd S.speeds i 0 j) 0 1000
          unfold upd
          split
          · exact ⟨by decide, by decide⟩
          · exact h3
        · show upd S.speeds i 0 j = 0 → upd S.since i 0 j = 0
          unfold upd
          split
          · exact fun _ => rfl
          · exact h5
      · have hj2 : j ≠ i := by omega
        unfold PT.get
        split
        · rfl
        · rfl
        · rfl
        · rfl
        · exact upd_off _ _ hj2
        · rfl
        · exact upd_off _ _ hj2
        · rfl
    split
    · exact gen _ (PT.nextVar_ok ((S.sSpeeds (upd S.speeds i 0)).sSince (upd S.since i 0)))
    · rename_i hne
      refine gen S.vrb ?_
      rcases h.2.2.2 with q | ⟨w, h1, h2, h3, h4⟩
      · exact Or.inl q
      · refine Or.inr ⟨w, h1, h2, ?_, h4⟩
        rw [upd_off _ _ (fun z => hne (by rw [e1, h2, z]))]
        exact h3
theorem PT.cm_inv {S : PT} (h : S.inv) {p : Nat} (hp : p < S.n) : (PT.cm p S).inv := by
  unfold PT.cm
  split
  · rename_i hr
    refine PT.inv_of h rfl (fun j hj => ?_) (fun j hj w => ?_) h.2.2.2
    · obtain ⟨h1, h2, h3, h4, h5⟩ := h.2.1 j hj
      refine ⟨h1, h2, h3, h4, ?_⟩
      show S.speeds j = 0 → upd S.since p _ j = 0
      intro e
      by_cases q : j = p
      · subst q
        simp only [PT.run, decide_eq_true_eq] at hr
        exact absurd e (pos_ne hr)
      · rw [upd_off _ _ q]
        exact h5 e
    · have hj2 : j ≠ p := by omega
      unfold PT.get
      split
      · rfl
      · rfl
      · rfl
      · rfl
      · rfl
      · exact upd_off _ _ hj2
      · exact upd_off _ _ hj2
      · rfl
  · exact h
theorem PT.cm_size (p : Nat) (T : PT) : (PT.cm p T).size = T.size := by unfold PT.cm; split <;> rfl
theorem PT.countM_inv {S : PT} (h : S.inv) : S.countM.inv := (it_inv (f := PT.cm) (n := S.n) (fun _ (T : PT) => T.inv ∧ T.size = S.size) ⟨h, rfl⟩ (fun i T hi hT => ⟨PT.cm_inv hT.1 (by unfold PT.n; rw [hT.2]; exact hi), (PT.cm_size i T).trans hT.2⟩)).1
theorem hold_rng {v a b : Int32} (h : ¬ b < a) : rng (hold v a b) a.toInt b.toInt := by
  unfold hold rng
  simp only [Int32.lt_iff_toInt_lt] at *
  (repeat' split) <;> omega
theorem ST.adjust_inv {S : ST} {n : Nat} (h : S.inv n) : S.adjust.inv n := by
  unfold ST.adjust
  split
  · exact h
  · rename_i hh
    have hh : S.P.has S.P.vrb = true := by cases q : S.P.has S.P.vrb <;> simp_all
    obtain ⟨w, h1, h2, h3, h4, h5⟩ := PT.vok_lt h.1 hh
    rw [h3]
    refine ST.sP_inv h ?_
    have hs := h.2.2.2.2.1.2.1
    have hx : ∀ x, rng (hold x (S.settings 4) 1000) 1 1000 := fun x => by
      refine rng_mono (hold_rng (v := x) (a := S.settings 4) (b := 1000) ?_) ?_ (Int.le_refl _)
      · rw [Int32.lt_iff_toInt_lt, iz.2.2.2.1]
        have := hs.2
        omega
      · have := hs.1
        omega
    generalize hold _ (-S.settings 3) (S.settings 3) = by1
    refine PT.mk_inv (g := upd S.P.speeds w (hold (S.P.speeds w + by1) (S.settings 4) 1000)) h.1 (f := S.P.starts) (fun _ _ => rfl) (x := S.P.vrb) (fun i => ?_) ?_
    · unfold upd
      split
      · rename_i e; subst e; exact Or.inr ⟨h1, hx _⟩
      · exact Or.inl rfl
    · exact Or.inr ⟨w, h1, h2, by rw [upd_at]; exact rng_lt (hx _) (by decide), h5⟩
theorem fstN_some {c : Nat → Bool} {n i : Nat} (h : fstN c n = some i) : i < n ∧ c i = true := by
  have : ∀ j, fstN c n = some j → j < n ∧ c j = true := by
    have h := it_inv (f := fun p x => if x.isSome then x else if c p then some p else none) (a := (none : Option Nat)) (n := n) (fun m (x : Option Nat) => ∀ j, x = some j → j < n ∧ c j = true) (fun j q => by cases q) (fun m x hm hx => by
      intro j hj
      split at hj
      · exact hx j hj
      · split at hj
        · rename_i q; cases hj; exact ⟨hm, q⟩
        · cases hj)
    unfold fstN
    exact h
  exact this i h
theorem PT.inOrd_ok {S : PT} {x : Int32} {i : Nat} (h : S.inOrd x = some i) : i < S.n ∧ S.rdy i = true := by
  have := fstN_some h
  simp only [Bool.and_eq_true] at this
  exact ⟨this.1, this.2.1⟩
theorem ST.start_inv {S : ST} {n p : Nat} {v : Int32} (h : S.inv (n + 1)) (hp : p < S.P.n) (hv : rng v 1 1000) : (S.start (nI p) v).inv n := ST.event_inv (ST.sP_inv h (PT.start_inv h.1 hp hv)) _ _
theorem ST.stop_inv {S : ST} {n : Nat} (h : S.inv (n + 1)) (p : Int32) : (S.stop p).inv n := by
  unfold ST.stop
  split
  · exact ST.event_inv (ST.sP_inv h (PT.stop_inv h.1 p)) _ _
  · exact ST.inv_le h (Nat.le_succ n)
theorem setOk_4 {S : ST} {n : Nat} (h : S.inv n) : rng (S.settings 4) 1 1000 := rng_mono h.2.2.2.2.1.2.1 (by decide) (by decide)
theorem oI_some {o : Option Nat} (h : ¬ oI o = -1) : ∃ i, o = some i := by
  cases o with
  | none => exact absurd rfl h
  | some i => exact ⟨i, rfl⟩
theorem ST.startO_inv {S : ST} {n : Nat} (h : S.inv (n + 1)) (hn : ¬ oI (S.P.inOrd 0) = -1) : (S.start (oI (S.P.inOrd 0)) (S.settings 4)).inv n := by
  obtain ⟨i, hi⟩ := oI_some hn
  rw [hi]
  exact ST.start_inv h (PT.inOrd_ok hi).1 (setOk_4 h)
theorem ST.wake_inv {S : ST} {n : Nat} (h : S.inv (n + 2)) : S.wake.inv n := by
  unfold ST.wake
  split
  · exact ST.inv_le h (by omega)
  · rename_i q
    exact ST.event_inv (ST.startO_inv h (fun z => q (Or.inr (Or.inr z)))) _ _
theorem ST.cnts_inv {S : ST} {n : Nat} (h : S.inv n) (a b c : Int32) : (((S.sToStart a).sToStop b).sToSleep c).inv n := h
theorem ST.cnt_inv {S : ST} {n : Nat} (h : S.inv n) : S.cnt.inv n := by
  unfold ST.cnt
  exact ST.cnts_inv h _ _ _
theorem ST.anew_inv {S : ST} {n : Nat} (h : S.inv n) : S.anew.inv n := ST.cnts_inv h 0 0 0
theorem ST.dryT_inv {S : ST} {n : Nat} (h : S.inv n) {x : Int32} (hx : b01 x) (y : Int32) : ((S.sDry x).sTrips y).inv n := by
  obtain ⟨h1, h2, h3, h4, h5⟩ := h
  exact ⟨h1, h2, h3, hx, h5⟩
theorem ST.dry_inv {S : ST} {n : Nat} (h : S.inv n) {x : Int32} (hx : b01 x) : (S.sDry x).inv n := by
  obtain ⟨h1, h2, h3, h4, h5⟩ := h
  exact ⟨h1, h2, h3, hx, h5⟩
theorem ST.dm_inv {S : ST} {n : Nat} (h : S.inv n) (x : Int32) : (S.sDryMinutes x).inv n := h
theorem ST.trips_inv {S : ST} {n : Nat} (h : S.inv n) (x : Int32) : (S.sTrips x).inv n := h
theorem ST.sN_inv {S : ST} {n : Nat} (h : S.inv n) {x : NT} (hx : x.ok) : (S.sN x).inv n := by
  obtain ⟨h1, h2, h3, h4⟩ := h
  exact ⟨h1, h2, hx, h4⟩
theorem ST.cascade_inv {S : ST} {n : Nat} (h : S.inv (n + 2)) : S.cascade.inv n := by
  unfold ST.cascade
  split
  · exact ST.inv_le h (by omega)
  · refine ST.anew_inv ?_
    unfold ST.cascade1
    split
    · rename_i q
      exact ST.inv_le (ST.startO_inv (n := n + 1) h q.1) (by omega)
    · split
      · exact ST.inv_le (ST.stop_inv (n := n + 1) h _) (by omega)
      · exact ST.event_inv (ST.stop_inv (n := n + 1) h _) _ _
theorem PT.nextRot_ok {S : PT} (h : S.inv) : S.nextRot = -1 ∨ ∃ i, i < S.n ∧ S.nextRot = nI i ∧ S.rdy i = true ∧ ¬ S.kinds i = 0 := by
  unfold PT.nextRot
  split
  · exact Or.inl rfl
  · have h := it_inv (f := fun p (q : Int32 × Int32) => if S.rdy p = true ∧ ¬ S.kinds p = 0 ∧ S.minutes p < q.2 then (nI p, S.minutes p) else q) (a := ((-1 : Int32), S.minutes S.vrb.toNatClampNeg)) (n := S.n) (fun _ (q : Int32 × Int32) => q.1 = -1 ∨ ∃ i, i < S.n ∧ q.1 = nI i ∧ S.rdy i = true ∧ ¬ S.kinds i = 0) (Or.inl rfl) (fun i q hi hq => by
      split
      · rename_i c
        exact Or.inr ⟨i, hi, rfl, c.1, c.2.1⟩
      · exact hq)
    exact h
theorem ST.rotate_inv {S : ST} {n : Nat} (h : S.inv (n + 3)) : S.rotate.inv n := by
  unfold ST.rotate
  split
  · exact ST.inv_le h (by omega)
  · rename_i q
    refine ST.stop_inv (ST.event_inv (n := n + 1) ?_ _ _) _
    rcases PT.nextRot_ok h.1 with c | ⟨i, hi, e, _, _⟩
    · exact absurd c (fun z => q (Or.inr (Or.inr (Or.inr z))))
    · rw [e]
      refine ST.start_inv (n := n + 2) h hi ?_
      have hh : S.P.has S.P.vrb = true := by
        cases z : S.P.has S.P.vrb
        · exact absurd (Or.inr (Or.inl z)) q
        · rfl
      obtain ⟨w, h1, h2, h3, h4, h5⟩ := PT.vok_lt h.1 hh
      rw [h3]
      have h6 := (h.1.2.1 w h1).2.2.1
      rw [Int32.lt_iff_toInt_lt, iz.1] at h4
      exact ⟨by omega, h6.2⟩
theorem ST.second_inv {S : ST} {n : Nat} (h : S.inv (n + 7)) : S.second.inv n := ST.rotate_inv (ST.cascade_inv (n := n + 3) (ST.cnt_inv (ST.wake_inv (n := n + 5) (ST.adjust_inv h))))
theorem ST.goOn_inv {S : ST} {n : Nat} (h : S.inv (n + 1)) : S.goOn.inv n := by
  unfold ST.goOn
  split
  · exact ST.event_inv (ST.dry_inv h (Or.inl rfl)) _ _
  · exact ST.inv_le h (by omega)
theorem PT.n6 {S : PT} (h : S.ok) : S.n ≤ 6 := h.2.1
theorem ST.stopAll_inv {S : ST} {n : Nat} (h : S.inv (n + 6)) : S.stopAll.inv n := by
  have := it_inv (f := fun p T => ST.stop T (nI p)) (a := S) (n := S.P.n) (fun i (T : ST) => i ≤ 6 → T.inv (n + (6 - i))) (fun _ => h) (fun i T hi hT q => by
    have h1 := hT (by omega)
    rw [show n + (6 - i) = n + (6 - (i + 1)) + 1 by omega] at h1
    exact ST.stop_inv h1 _) (PT.n6 h.1.1)
  exact ST.inv_le this (by omega)
theorem ST.level2_inv {S : ST} {n : Nat} (h : S.inv (n + 7)) : S.level2.inv n := by
  unfold ST.level2
  split
  · exact ST.event_inv (ST.dryT_inv (ST.stopAll_inv (n := n + 1) h) (Or.inr rfl) _) _ _
  · exact ST.inv_le h (by omega)
theorem ST.watchL_inv {S : ST} {n : Nat} (h : S.inv (n + 8)) : S.watchL.inv n := by
  have h1 : S.level1.inv (n + 8) := ST.dm_inv h _
  have h2 := ST.level2_inv (n := n + 1) h1
  unfold ST.watchL ST.level3
  split
  · exact ST.goOn_inv h2
  · exact ST.inv_le h2 (by omega)
theorem ST.night_inv {S : ST} {n : Nat} (h : S.inv (n + 1)) : S.night.inv n := by
  have h1 : S.night1.inv (n + 1) := ST.sN_inv h h.2.2.1
  have h2 : S.night2.inv n := by
    unfold ST.night2
    split
    · exact ST.event_inv (n := n) (ST.sN_inv h1 h1.2.2.1) _ _
    · exact ST.inv_le h1 (by omega)
  unfold ST.night
  split
  · exact ST.inv_le h (by omega)
  · split
    · exact ST.inv_le h1 (by omega)
    · exact ST.sN_inv h2 (NT.note_ok h2.2.2.1)
theorem ZT.set_inv {S : ZT} (h : S.inv) {z : Nat} (hz : z < S.n) {x : Int32} (hx : b01 x) : (S.sIsOpen (upd S.isOpen z x)).inv := by
  refine ⟨h.1, ZT.bits_set h.2.1 z hx, fun i hi hi8 => ?_, h.2.2.2⟩
  have hi' : S.n ≤ i := hi
  have := h.2.2.1 i hi' hi8
  refine ⟨this.1, ?_⟩
  show upd S.isOpen z x i = 0
  rw [upd_off _ _ (by omega)]
  exact this.2
theorem ZT.has_n {S : ZT} {p : Int32} (hs : S.ok) (h : S.has p = true) : ∃ i, i < S.n ∧ p = nI i ∧ p.toNatClampNeg = i := by
  simp only [ZT.has, decide_eq_true_eq] at h
  obtain ⟨i, hi, e⟩ := isN_in hs.1 h.1 h.2
  have := hs.1.2
  exact ⟨i, hi, e, by rw [e]; exact nI_clamp (by omega)⟩
theorem ZT.kp_inv {S : ZT} (h : S.inv) (m : Int32) (i : Nat) : (ZT.kp m i S).inv := by
  unfold ZT.kp
  split
  · exact h
  · rename_i q
    have hh : S.has (S.pzones i) = true := by cases z : S.has (S.pzones i) <;> simp_all
    obtain ⟨z, hz, e1, e2⟩ := ZT.has_n h.1 hh
    rw [e2]
    split
    · exact ZT.set_inv h hz (Or.inr rfl)
    · split
      · exact ZT.set_inv h hz (Or.inl rfl)
      · exact h
theorem ZT.keep_inv {S : ZT} (h : S.inv) (m : Int32) : (S.keep m).inv := it_inv (fun _ (T : ZT) => T.inv) h (fun i T hi hT => ZT.kp_inv hT m i)
theorem ST.tick_inv {S : ST} {n : Nat} (h : S.inv (n + 1)) : S.tick.inv n := by
  obtain ⟨h1, h2, h3, h4, h5, h6, h7, ⟨h8, h9, h10⟩, h11, h12⟩ := h
  have e : (S.time + 1).toInt = S.time.toInt + 1 := add1 (by omega)
  refine ⟨h1, ZT.keep_inv h2 _, h3, h4, h5, h6, h7, ⟨h8, ?_, fun k hk => ?_⟩, ?_, ?_⟩
  · show S.E.all.toInt + (n : Int) ≤ _
    omega
  · show (S.E.latest k).toInt ≤ (S.time + 1).toInt
    have := h10 k hk
    omega
  · show 0 ≤ (S.time + 1).toInt
    omega
  · show (S.time + 1).toInt + (n : Int) ≤ _
    omega
