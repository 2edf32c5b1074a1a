/-! ===== a station with other zones that take as much does the same ===== -/
theorem ite_sZ {c : Prop} [Decidable c] (a b : ST) (B : ZT) : ST.sZ (if c then a else b) B = if c then a.sZ B else b.sZ B := by split <;> rfl
theorem sZ_c : (∀ (S : ST) (B : ZT) (x : (Nat → Int32)), (S.sZ B).sSettings x = (S.sSettings x).sZ B) ∧ (∀ (S : ST) (B : ZT) (x : PT), (S.sZ B).sP x = (S.sP x).sZ B) ∧ (∀ (S : ST) (B : ZT) (x : NT), (S.sZ B).sN x = (S.sN x).sZ B) ∧ (∀ (S : ST) (B : ZT) (x : ET), (S.sZ B).sE x = (S.sE x).sZ B) ∧ (∀ (S : ST) (B : ZT) (x : Int32), (S.sZ B).sTime x = (S.sTime x).sZ B) ∧ (∀ (S : ST) (B : ZT) (x : Int32), (S.sZ B).sPressure x = (S.sPressure x).sZ B) ∧ (∀ (S : ST) (B : ZT) (x : Int32), (S.sZ B).sLevel x = (S.sLevel x).sZ B) ∧ (∀ (S : ST) (B : ZT) (x : Int32), (S.sZ B).sLeak x = (S.sLeak x).sZ B) ∧ (∀ (S : ST) (B : ZT) (x : Int32), (S.sZ B).sSupply x = (S.sSupply x).sZ B) ∧ (∀ (S : ST) (B : ZT) (x : Int32), (S.sZ B).sAllSupplied x = (S.sAllSupplied x).sZ B) ∧ (∀ (S : ST) (B : ZT) (x : Int32), (S.sZ B).sDry x = (S.sDry x).sZ B) ∧ (∀ (S : ST) (B : ZT) (x : Int32), (S.sZ B).sDryMinutes x = (S.sDryMinutes x).sZ B) ∧ (∀ (S : ST) (B : ZT) (x : Int32), (S.sZ B).sTrips x = (S.sTrips x).sZ B) ∧ (∀ (S : ST) (B : ZT) (x : Int32), (S.sZ B).sToStart x = (S.sToStart x).sZ B) ∧ (∀ (S : ST) (B : ZT) (x : Int32), (S.sZ B).sToStop x = (S.sToStop x).sZ B) ∧ (∀ (S : ST) (B : ZT) (x : Int32), (S.sZ B).sToSleep x = (S.sToSleep x).sZ B) := ⟨fun _ _ _ => rfl, fun _ _ _ => rfl, fun _ _ _ => rfl, fun _ _ _ => rfl, fun _ _ _ => rfl, fun _ _ _ => rfl, fun _ _ _ => rfl, fun _ _ _ => rfl, fun _ _ _ => rfl, fun _ _ _ => rfl, fun _ _ _ => rfl, fun _ _ _ => rfl, fun _ _ _ => rfl, fun _ _ _ => rfl, fun _ _ _ => rfl, fun _ _ _ => rfl⟩
theorem ST.stop_sZ (S : ST) (B : ZT) (p : Int32) : (S.sZ B).stop p = (S.stop p).sZ B := by
  unfold ST.stop ST.event
  simp only [ST_gs, sZ_c, ite_sZ]
theorem ST.adjust_sZ (S : ST) (B : ZT) : (S.sZ B).adjust = S.adjust.sZ B := by
  unfold ST.adjust
  simp only [ST_gs, sZ_c, ite_sZ]
theorem ST.wake_sZ (S : ST) (B : ZT) : (S.sZ B).wake = S.wake.sZ B := by
  unfold ST.wake ST.start ST.event
  simp only [ST_gs, sZ_c, ite_sZ]
theorem ST.cnt_sZ (S : ST) (B : ZT) : (S.sZ B).cnt = S.cnt.sZ B := by
  have e1 : (S.sZ B).gStart = S.gStart := by
    unfold ST.gStart ST.low ST.wo
    simp only [ST_gs]
  have e2 : (S.sZ B).gStop = S.gStop := by
    unfold ST.gStop ST.high ST.wo
    simp only [ST_gs]
  have e3 : (S.sZ B).gSleep = S.gSleep := by
    unfold ST.gSleep
    simp only [ST_gs]
  unfold ST.cnt
  simp only [e1, e2, e3, ST_gs, sZ_c]
theorem ST.start_sZ (S : ST) (B : ZT) (p v : Int32) : (S.sZ B).start p v = (S.start p v).sZ B := by
  unfold ST.start ST.event
  simp only [ST_gs, sZ_c]
theorem ST.event_sZ (S : ST) (B : ZT) (p v : Int32) : (S.sZ B).event p v = (S.event p v).sZ B := by
  unfold ST.event
  simp only [ST_gs, sZ_c]
theorem ST.cascade1_sZ (S : ST) (B : ZT) : (S.sZ B).cascade1 = S.cascade1.sZ B := by
  unfold ST.cascade1
  simp only [ST.stop_sZ, ST.start_sZ, ST.event_sZ, ST_gs, ite_sZ]
theorem ST.anew_sZ (S : ST) (B : ZT) : (S.sZ B).anew = S.anew.sZ B := by
  unfold ST.anew
  simp only [sZ_c]
theorem ST.cascade_sZ (S : ST) (B : ZT) : (S.sZ B).cascade = S.cascade.sZ B := by
  have e : (S.sZ B).idleB = S.idleB := by
    unfold ST.idleB
    simp only [ST_gs]
  unfold ST.cascade
  simp only [e, ST.cascade1_sZ, ST.anew_sZ, ite_sZ]
theorem ST.rotate_sZ (S : ST) (B : ZT) : (S.sZ B).rotate = S.rotate.sZ B := by
  unfold ST.rotate
  simp only [ST_gs, ST.stop_sZ, ST.start_sZ, ST.event_sZ, ite_sZ]
theorem ST.second_sZ (S : ST) (B : ZT) : (S.sZ B).second = S.second.sZ B := by
  unfold ST.second
  rw [ST.adjust_sZ, ST.wake_sZ, ST.cnt_sZ, ST.cascade_sZ, ST.rotate_sZ]
theorem ST.goOn_sZ (S : ST) (B : ZT) : (S.sZ B).goOn = S.goOn.sZ B := by
  unfold ST.goOn
  simp only [ST_gs, sZ_c, ST.event_sZ, ite_sZ]
theorem it_img {α : Type} {f : Nat → α → α} {g : α → α} (h : ∀ i x, f i (g x) = g (f i x)) (a : α) : ∀ n, it f (g a) n = g (it f a n)
  | 0 => rfl
  | n + 1 => by rw [it, it, it_img h a n, h]
theorem ST.stopAll_sZ (S : ST) (B : ZT) : (S.sZ B).stopAll = S.stopAll.sZ B := by
  have e : (S.sZ B).P = S.P := rfl
  unfold ST.stopAll
  rw [e]
  exact it_img (f := fun p T => ST.stop T (nI p)) (g := fun T => ST.sZ T B) (fun _ _ => ST.stop_sZ _ _ _) S _
theorem ST.level2_sZ (S : ST) (B : ZT) : (S.sZ B).level2 = S.level2.sZ B := by
  unfold ST.level2
  simp only [ST.stopAll_sZ, ST_gs, sZ_c, ST.event_sZ, ite_sZ]
theorem ST.level3_sZ (S : ST) (B : ZT) : (S.sZ B).level3 = S.level3.sZ B := by
  unfold ST.level3
  simp only [ST.goOn_sZ, ST_gs, ite_sZ]
theorem ST.level1_sZ (S : ST) (B : ZT) : (S.sZ B).level1 = S.level1.sZ B := by
  unfold ST.level1
  simp only [ST_gs, sZ_c]
theorem ST.watchL_sZ (S : ST) (B : ZT) : (S.sZ B).watchL = S.watchL.sZ B := by
  unfold ST.watchL
  rw [ST.level1_sZ, ST.level2_sZ, ST.level3_sZ]
theorem ST.night1_sZ (S : ST) (B : ZT) : (S.sZ B).night1 = S.night1.sZ B := by
  unfold ST.night1
  simp only [ST_gs, sZ_c]
theorem ST.night2_sZ (S : ST) (B : ZT) : (S.sZ B).night2 = S.night2.sZ B := by
  unfold ST.night2
  simp only [ST.night1_sZ, ST_gs, sZ_c, ST.event_sZ, ite_sZ]
theorem ST.night_sZ (S : ST) (B : ZT) : (S.sZ B).night = S.night.sZ B := by
  have e : (S.sZ B).into = S.into := by
    unfold ST.into
    simp only [ST_gs]
  unfold ST.night
  simp only [e, ST.night1_sZ, ST.night2_sZ, ST_gs, sZ_c, ite_sZ]
theorem ST.demand_sZ (S : ST) (B : ZT) (h : B.taken S.pressure = S.Z.taken S.pressure) : (S.sZ B).demand = S.demand := by
  unfold ST.demand
  simp only [ST_gs, h]
theorem ST.water_sZ (S : ST) (B : ZT) (h : B.taken S.pressure = S.Z.taken S.pressure) : (S.sZ B).water = S.water.sZ B := by
  have e1 : (S.sZ B).sup = S.sup := by
    unfold ST.sup
    simp only [ST_gs]
  have e2 : (S.sZ B).water1 = S.water1.sZ B := by
    unfold ST.water1 ST.newLevel
    simp only [e1, ST_gs, sZ_c]
  unfold ST.water
  simp only [ST.demand_sZ S B h, e1, e2, ST_gs, sZ_c, ite_sZ]
theorem ST.tick_sZ (S : ST) (B : ZT) : (S.sZ B).tick = S.tick.sZ (B.keep ((S.time + 1) % 1440)) := by
  unfold ST.tick
  simp only [ST_gs, sZ_c]
def ST.keepZ (S : ST) (Y : ZT) : ZT := Y.keep ((S.time + 1) % 1440)
theorem ST.minute_sZ (S : ST) (Y : ZT) (h : ∀ p, (S.keepZ Y).taken p = (S.keepZ S.Z).taken p) : (S.sZ Y).minute = S.minute.sZ (S.keepZ Y) := by
  have h0 : (S.sZ Y).tick = S.tick.sZ (S.keepZ Y) := ST.tick_sZ S Y
  have h2 : (S.keepZ Y).taken S.tick.pressure = S.tick.Z.taken S.tick.pressure := h _
  have h1 : (S.sZ Y).first = S.first.sZ (S.keepZ Y) := by
    unfold ST.first
    rw [h0, ST.water_sZ S.tick (S.keepZ Y) h2, ST.night_sZ, ST.watchL_sZ]
  unfold ST.minute
  simp only [h1, ST.anew_sZ, ST.second_sZ, ST_gs, ite_sZ]
theorem ST.night_ZP (S : ST) : S.night.Z = S.Z ∧ S.night.P = S.P := by
  have h2 : S.night2.Z = S.Z ∧ S.night2.P = S.P := by
    unfold ST.night2 ST.night1 ST.event
    split <;> simp only [ST_gs, and_self]
  unfold ST.night ST.night1
  split
  · exact ⟨rfl, rfl⟩
  · split
    · simp only [ST_gs, and_self]
    · simp only [ST_gs]
      exact h2
theorem ST.water_ZP (S : ST) : S.water.Z = S.Z ∧ S.water.P = S.P.countM := by
  unfold ST.water ST.water1
  split <;> simp only [ST_gs, and_self]
theorem ST.minute_Z (S : ST) : S.minute.Z = S.keepZ S.Z := by
  have h0 : S.tick.water.Z = S.keepZ S.Z := by
    rw [(ST.water_ZP S.tick).1]
    unfold ST.tick
    simp only [ST_gs]
    rfl
  have h2 : S.first.Z = S.keepZ S.Z := ((ST.watchL_calm _).2.1.trans (ST.night_ZP _).1).trans h0
  unfold ST.minute
  split
  · exact (ST.anew_calm _).2.1.trans h2
  · exact (ST.second_calm _).2.1.trans h2
/-! the zones of two stations: three, the one's are the other's from the last one on -/
def zs (Z Y : ZT) : Prop := (Z.size = 3 ∧ Y.size = 3) ∧ (Z.programmes = 3 ∧ Y.programmes = 3) ∧ (∀ i, i < 3 → Z.pzones i = nI i ∧ Y.pzones i = nI i) ∧ (∀ i, i < 3 → rng (Z.demands i) 1 1000) ∧ (∀ i, i < 3 → Y.demands i = Z.demands (2 - i)) ∧ (∀ i, i < 3 → Y.isOpen i = Z.isOpen (2 - i)) ∧ (∀ i, i < 3 → Y.opening i = Z.opening (2 - i)) ∧ (∀ i, i < 3 → Y.closing i = Z.closing (2 - i))
def ZT.kv (Z : ZT) (m : Int32) (j : Nat) : Int32 := if Z.opening j = m then 1 else if Z.closing j = m then 0 else Z.isOpen j
theorem has3 : ∀ k, k < 3 → (decide (¬ nI k < 0 ∧ nI k < (3 : Int32)) = true) ∧ (nI k).toNatClampNeg = k := by decide +kernel
theorem ZT.keep3 {Z : ZT} (hs : Z.size = 3) (hm : Z.programmes = 3) (hp : ∀ i, i < 3 → Z.pzones i = nI i) (m : Int32) : (Z.keep m).size = Z.size ∧ (Z.keep m).programmes = Z.programmes ∧ (Z.keep m).demands = Z.demands ∧ (Z.keep m).pzones = Z.pzones ∧ (Z.keep m).opening = Z.opening ∧ (Z.keep m).closing = Z.closing ∧ ∀ j, j < 3 → (Z.keep m).isOpen j = Z.kv m j := by
  have e : Z.keep m = it (ZT.kp m) Z 3 := by
    unfold ZT.keep ZT.m
    rw [hm]
    rfl
  rw [e]
  have key := it_inv (f := ZT.kp m) (a := Z) (n := 3) (fun k (T : ZT) => T.size = Z.size ∧ T.programmes = Z.programmes ∧ T.demands = Z.demands ∧ T.pzones = Z.pzones ∧ T.opening = Z.opening ∧ T.closing = Z.closing ∧ ∀ j, j < 3 → T.isOpen j = if j < k then Z.kv m j else Z.isOpen j) ⟨rfl, rfl, rfl, rfl, rfl, rfl, fun j _ => (if_neg (Nat.not_lt_zero j)).symm⟩ (fun k T hk hT => by
    obtain ⟨g1, g2, g3, g4, g5, g6, g7⟩ := hT
    have hz : T.pzones k = nI k := by rw [g4]; exact hp k hk
    have hh : T.has (T.pzones k) = true := by
      rw [hz]
      unfold ZT.has
      rw [g1, hs]
      exact (has3 k hk).1
    have old : ∀ j, j < 3 → ¬ j = k → T.isOpen j = if j < k + 1 then Z.kv m j else Z.isOpen j := fun j hj e => by
      rw [g7 j hj]
      by_cases q : j < k
      · rw [if_pos q, if_pos (by omega)]
      · rw [if_neg q, if_neg (by omega)]
    have put : ∀ x : Int32, Z.kv m k = x → ∀ j, j < 3 → upd T.isOpen k x j = if j < k + 1 then Z.kv m j else Z.isOpen j := fun x hx j hj => by
      by_cases e : j = k
      · subst e
        rw [upd_at, if_pos (Nat.lt_succ_self _), hx]
      · rw [upd_off _ _ e]
        exact old j hj e
    unfold ZT.kp
    rw [if_neg (by rw [hh]; decide), hz, (has3 k hk).2, g5, g6]
    split
    · rename_i c
      exact ⟨g1, g2, g3, g4, g5, g6, put 1 (by unfold ZT.kv; rw [if_pos c])⟩
    · rename_i c
      split
      · rename_i d
        exact ⟨g1, g2, g3, g4, g5, g6, put 0 (by unfold ZT.kv; rw [if_neg c, if_pos d])⟩
      · rename_i d
        refine ⟨g1, g2, g3, g4, g5, g6, fun j hj => ?_⟩
        by_cases e : j = k
        · subst e
          rw [g7 j hj, if_neg (Nat.lt_irrefl j), if_pos (Nat.lt_succ_self j)]
          unfold ZT.kv
          rw [if_neg c, if_neg d]
        · exact old j hj e)
  obtain ⟨k1, k2, k3, k4, k5, k6, k7⟩ := key
  refine ⟨k1, k2, k3, k4, k5, k6, fun j hj => ?_⟩
  rw [k7 j hj, if_pos hj]
theorem zs_keep {Z Y : ZT} (h : zs Z Y) (m : Int32) : zs (Z.keep m) (Y.keep m) := by
  obtain ⟨⟨a1, a2⟩, ⟨b1, b2⟩, c, d, e, f, g, k⟩ := h
  obtain ⟨p1, p2, p3, p4, p5, p6, p7⟩ := ZT.keep3 a1 b1 (fun i hi => (c i hi).1) m
  obtain ⟨q1, q2, q3, q4, q5, q6, q7⟩ := ZT.keep3 a2 b2 (fun i hi => (c i hi).2) m
  refine ⟨⟨p1.trans a1, q1.trans a2⟩, ⟨p2.trans b1, q2.trans b2⟩, fun i hi => ?_, fun i hi => ?_, fun i hi => ?_, fun i hi => ?_, fun i hi => ?_, fun i hi => ?_⟩
  · rw [p4, q4]; exact c i hi
  · rw [p3]; exact d i hi
  · rw [p3, q3]; exact e i hi
  · rw [p7 (2 - i) (by omega), q7 i hi]
    unfold ZT.kv
    rw [g i hi, k i hi, f i hi]
  · rw [p5, q5]; exact g i hi
  · rw [p6, q6]; exact k i hi
theorem sum3 (a b c : Int32) : 0 + a + b + c = 0 + c + b + a := by
  rw [Int32.zero_add, Int32.zero_add, Int32.add_comm (a + b) c, Int32.add_comm a b, ← Int32.add_assoc]
theorem ZT.n3 {Z : ZT} (h : Z.size = 3) : Z.n = 3 := by
  unfold ZT.n
  rw [h]
  rfl
theorem ZT.m3 {Z : ZT} (h : Z.programmes = 3) : Z.m = 3 := by
  unfold ZT.m
  rw [h]
  rfl
theorem ZT.taken3 {Z : ZT} (h : Z.size = 3) (p : Int32) : Z.taken p = 0 + Z.takes 0 p + Z.takes 1 p + Z.takes 2 p := by
  unfold ZT.taken
  rw [ZT.n3 h]
  rfl
theorem ZT.open3 {Z : ZT} (h : Z.size = 3) : Z.openOnes = 0 + bI (Z.isOp 0) + bI (Z.isOp 1) + bI (Z.isOp 2) := by
  unfold ZT.openOnes
  rw [ZT.n3 h]
  rfl
theorem zs_takes {Z Y : ZT} (h : zs Z Y) (p : Int32) : ∀ i, i < 3 → Y.takes i p = Z.takes (2 - i) p := fun i hi => by
  obtain ⟨-, -, -, -, e, f, -⟩ := h
  unfold ZT.takes
  rw [e i hi, f i hi]
theorem zs_taken {Z Y : ZT} (h : zs Z Y) (p : Int32) : Y.taken p = Z.taken p := by
  rw [ZT.taken3 h.1.2, ZT.taken3 h.1.1, zs_takes h p 0 (by decide), zs_takes h p 1 (by decide), zs_takes h p 2 (by decide)]
  exact sum3 _ _ _
theorem zs_open {Z Y : ZT} (h : zs Z Y) : Y.openOnes = Z.openOnes := by
  have ho : ∀ i, i < 3 → Y.isOp i = Z.isOp (2 - i) := fun i hi => by
    unfold ZT.isOp
    rw [h.2.2.2.2.2.1 i hi]
  rw [ZT.open3 h.1.2, ZT.open3 h.1.1, ho 0 (by decide), ho 1 (by decide), ho 2 (by decide)]
  exact sum3 _ _ _
theorem zs_upd {Z Y : ZT} (h : zs Z Y) {k : Nat} (hk : k < 3) (x : Int32) : zs (Z.sIsOpen (upd Z.isOpen k x)) (Y.sIsOpen (upd Y.isOpen (2 - k) x)) := by
  obtain ⟨a, b, c, d, e, f, g, q⟩ := h
  refine ⟨a, b, c, d, e, fun i hi => ?_, g, q⟩
  show upd Y.isOpen (2 - k) x i = upd Z.isOpen k x (2 - i)
  by_cases z : i = 2 - k
  · rw [z, upd_at, show 2 - (2 - k) = k by omega, upd_at]
  · rw [upd_off _ _ z, upd_off _ _ (by omega)]
    exact f i hi
theorem ST.mins_sZ {S : ST} {Y : ZT} (h : zs S.Z Y) (hY : Y.inv) : ∀ k, ∃ Y', (S.sZ Y).mins k = (S.mins k).sZ Y' ∧ zs (S.mins k).Z Y' ∧ Y'.inv
  | 0 => ⟨Y, rfl, h, hY⟩
  | k + 1 => by
    obtain ⟨Y', h1, h2, h4⟩ := ST.mins_sZ h hY k
    have h3 := zs_keep h2 (((S.mins k).time + 1) % 1440)
    refine ⟨(S.mins k).keepZ Y', ?_, ?_, ZT.keep_inv h4 _⟩
    · rw [ST.mins_succ, ST.mins_succ, h1]
      exact ST.minute_sZ _ _ (fun p => zs_taken h3 p)
    · rw [ST.mins_succ, ST.minute_Z]
      exact h3
/-! what a minute leaves behind the water -/
def ST.qt (S T : ST) : Prop := T.time = S.time ∧ T.supply = S.supply ∧ T.allSupplied = S.allSupplied ∧ T.level = S.level ∧ T.settings = S.settings ∧ T.pressure = S.pressure ∧ T.leak = S.leak
theorem ST.qt_tr {S T U : ST} (h : S.qt T) (g : T.qt U) : S.qt U := ⟨g.1.trans h.1, g.2.1.trans h.2.1, g.2.2.1.trans h.2.2.1, g.2.2.2.1.trans h.2.2.2.1, g.2.2.2.2.1.trans h.2.2.2.2.1, g.2.2.2.2.2.1.trans h.2.2.2.2.2.1, g.2.2.2.2.2.2.trans h.2.2.2.2.2.2⟩
theorem ST.qt_rfl (S : ST) : S.qt S := ⟨rfl, rfl, rfl, rfl, rfl, rfl, rfl⟩
theorem qt_sP (S : ST) (x : PT) : S.qt (S.sP x) := ⟨rfl, rfl, rfl, rfl, rfl, rfl, rfl⟩
theorem qt_sN (S : ST) (x : NT) : S.qt (S.sN x) := ⟨rfl, rfl, rfl, rfl, rfl, rfl, rfl⟩
theorem qt_sE (S : ST) (x : ET) : S.qt (S.sE x) := ⟨rfl, rfl, rfl, rfl, rfl, rfl, rfl⟩
theorem qt_cn (S : ST) (a b c : Int32) : S.qt (((S.sToStart a).sToStop b).sToSleep c) := ⟨rfl, rfl, rfl, rfl, rfl, rfl, rfl⟩
theorem qt_dry (S : ST) (a : Int32) : S.qt (S.sDry a) := ⟨rfl, rfl, rfl, rfl, rfl, rfl, rfl⟩
theorem qt_dryT (S : ST) (a b : Int32) : S.qt ((S.sDry a).sTrips b) := ⟨rfl, rfl, rfl, rfl, rfl, rfl, rfl⟩
theorem qt_dm (S : ST) (a : Int32) : S.qt (S.sDryMinutes a) := ⟨rfl, rfl, rfl, rfl, rfl, rfl, rfl⟩
theorem qt_ev (S : ST) (k p : Int32) : S.qt (S.event k p) := qt_sE S _
theorem qt_start (S : ST) (p v : Int32) : S.qt (S.start p v) := ST.qt_tr (qt_sP S _) (qt_ev _ 0 p)
theorem ST.stop_qt (S : ST) (p : Int32) : S.qt (S.stop p) := by
  unfold ST.stop
  split
  · exact ST.qt_tr (qt_sP S _) (qt_ev _ _ _)
  · exact ST.qt_rfl S
theorem ST.stopAll_qt (S : ST) : S.qt S.stopAll := it_inv (fun _ (T : ST) => S.qt T) (ST.qt_rfl S) (fun i T hi h => ST.qt_tr h (ST.stop_qt T _))
theorem ST.night_qt (S : ST) : S.qt S.night := by
  have h1 : S.qt S.night1 := qt_sN S _
  have h2 : S.qt S.night2 := by
    unfold ST.night2
    split
    · exact ST.qt_tr h1 (ST.qt_tr (qt_sN _ _) (qt_ev _ _ _))
    · exact h1
  unfold ST.night
  split
  · exact ST.qt_rfl S
  · split
    · exact h1
    · exact ST.qt_tr h2 (qt_sN _ _)
theorem ST.goOn_qt (S : ST) : S.qt S.goOn := by
  unfold ST.goOn
  split
  · exact ST.qt_tr (qt_dry S 0) (qt_ev _ _ _)
  · exact ST.qt_rfl S
theorem ST.level2_qt (S : ST) : S.qt S.level2 := by
  unfold ST.level2
  split
  · exact ST.qt_tr (ST.stopAll_qt S) (ST.qt_tr (qt_dryT _ _ _) (qt_ev _ _ _))
  · exact ST.qt_rfl S
theorem ST.watchL_qt (S : ST) : S.qt S.watchL := by
  have h : S.qt S.level1.level2 := ST.qt_tr (T := S.level1) (qt_dm S _) (ST.level2_qt _)
  unfold ST.watchL ST.level3
  split
  · exact ST.qt_tr h (ST.goOn_qt _)
  · exact h
theorem ST.adjust_qt (S : ST) : S.qt S.adjust := by
  unfold ST.adjust
  split
  · exact ST.qt_rfl S
  · exact qt_sP S _
theorem ST.wake_qt (S : ST) : S.qt S.wake := by
  unfold ST.wake
  split
  · exact ST.qt_rfl S
  · exact ST.qt_tr (qt_start S _ _) (qt_ev _ _ _)
theorem ST.cascade_qt (S : ST) : S.qt S.cascade := by
  have h : S.qt S.cascade1 := by
    unfold ST.cascade1
    split
    · exact qt_start S _ _
    · split
      · exact ST.stop_qt S _
      · exact ST.qt_tr (ST.stop_qt S S.P.vrb) (qt_ev _ _ _)
  unfold ST.cascade
  split
  · exact ST.qt_rfl S
  · exact ST.qt_tr h (qt_cn _ 0 0 0)
theorem ST.rotate_qt (S : ST) : S.qt S.rotate := by
  unfold ST.rotate
  split
  · exact ST.qt_rfl S
  · exact ST.qt_tr (ST.qt_tr (qt_start S _ _) (qt_ev _ _ _)) (ST.stop_qt _ _)
theorem ST.cnt_qt (S : ST) : S.qt S.cnt := by
  unfold ST.cnt
  exact qt_cn S _ _ _
theorem ST.second_qt (S : ST) : S.qt S.second := ST.qt_tr (ST.adjust_qt S) (ST.qt_tr (ST.wake_qt _) (ST.qt_tr (ST.cnt_qt _) (ST.qt_tr (ST.cascade_qt _) (ST.rotate_qt _))))
theorem ST.minute_qt (S : ST) : S.tick.water.qt S.minute := by
  have h : S.tick.water.qt S.first := ST.qt_tr (ST.night_qt _) (ST.watchL_qt _)
  unfold ST.minute
  split
  · exact ST.qt_tr h (qt_cn _ 0 0 0)
  · exact ST.qt_tr h (ST.second_qt _)
theorem ST.tw_eq (S : ST) : S.tick.water.time = S.time + 1 ∧ S.tick.water.supply = S.tick.sup ∧ S.tick.water.allSupplied = S.allSupplied + S.tick.sup ∧ S.tick.water.level = S.newLevel S.tick.sup ∧ S.tick.water.settings = S.settings := by
  have e1 : S.tick.allSupplied = S.allSupplied ∧ S.tick.time = S.time + 1 ∧ S.tick.settings = S.settings ∧ S.tick.level = S.level := by
    unfold ST.tick
    simp only [ST_gs, and_self]
  have e2 : S.tick.newLevel S.tick.sup = S.newLevel S.tick.sup := by
    unfold ST.newLevel
    rw [e1.2.2.1, e1.2.2.2]
  unfold ST.water ST.water1
  rw [e2, e1.1]
  split <;> simp only [ST_gs, e1, and_self]
theorem ST.minute_time (S : ST) : S.minute.time = S.time + 1 := (ST.minute_qt S).1.trans (ST.tw_eq S).1
theorem ST.minute_size (S : ST) : S.minute.P.size = S.P.size := by
  have h0 : S.tick.water.P.size = S.P.size := by
    rw [(ST.water_ZP S.tick).2, PT.countM_size]
    unfold ST.tick
    simp only [ST_gs]
  have hf : S.first.P.size = S.P.size := by
    have h1 := (ST.watchL_calm S.tick.water.night).1
    rw [(ST.night_ZP _).2, h0] at h1
    exact h1
  unfold ST.minute
  split
  · exact (ST.anew_calm _).1.trans hf
  · exact (ST.second_calm _).1.trans hf
theorem ST.mins_time (S : ST) : ∀ k, (S.mins k).time = S.time + nI k ∧ (S.mins k).P.size = S.P.size
  | 0 => ⟨by show S.time = S.time + nI 0; rw [nI_0, Int32.add_zero], rfl⟩
  | k + 1 => by
    have h := ST.mins_time S k
    rw [ST.mins_succ, ST.minute_time, ST.minute_size, h.1, h.2, ← nI_1, Int32.add_assoc]
    exact ⟨rfl, rfl⟩
