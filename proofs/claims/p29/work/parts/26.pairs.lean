/-! ===== calls of both stations ===== -/
theorem good_rem {F : FT} (h : F.good) {T : ST} {n : Nat} (hT : T.inv n) : (F.remember.sNow T).good := by
  have hO : (F.remember.sNow T).O = F.O := rmb_eq0.2.2 F
  refine ⟨(hist_rem h.1).1, ST.inv_okk hT, rem_bits h.2.2.1 h.2.1.2, ?_, ?_⟩
  · rw [hO]; exact h.2.2.2.1
  · rw [hO]; exact h.2.2.2.2
theorem good_trial {F : FT} (h : F.good) (T : ST) : (F.sTrial T).good := by
  obtain ⟨h1, h2, h3, h4, h5⟩ := h
  exact ⟨h1, h2, h3, h4, h5⟩
/-- the two stations, k steps ahead of the end -/
def Tw (k : Nat) (F G : FT) : Prop := F.good ∧ G.good ∧ F.now.inv (5000 * k + 5000) ∧ F.now.snd ∧ F.now.P.size = 3 ∧ F.now.time.toInt + 240 * k ≤ 19000 ∧ ∃ Y, G.now = F.now.sZ Y ∧ zs F.now.Z Y ∧ Y.inv
theorem Tw.op {k : Nat} {F G : FT} (h : Tw (k + 1) F G) {T : ST} {Y : ZT} (hT : T.inv (5000 * k + 5000)) (hs : T.snd) (hz : T.P.size = 3) (ht : T.time.toInt ≤ F.now.time.toInt + 240) (hzs : zs T.Z Y) (hY : Y.inv) : Tw k (F.remember.sNow T) (G.remember.sNow (T.sZ Y)) := by
  refine ⟨good_rem h.1 hT, good_rem h.2.1 (ST.sZ_inv hT hY), hT, hs, hz, ?_, Y, rfl, hzs, hY⟩
  have := h.2.2.2.2.2.1
  show T.time.toInt + 240 * (k : Int) ≤ 19000
  omega
theorem Tw.less {k : Nat} {F G : FT} (h : Tw (k + 1) F G) : Tw k F G := by
  obtain ⟨h1, h2, h3, h4, h5, h6, h7⟩ := h
  exact ⟨h1, h2, ST.inv_le h3 (by omega), h4, h5, by omega, h7⟩
theorem Tw.trial {k : Nat} {F G : FT} (h : Tw k F G) (A B : ST) : Tw k (F.sTrial A) (G.sTrial B) := by
  obtain ⟨h1, h2, h3, h4, h5, h6, h7⟩ := h
  exact ⟨good_trial h1 A, good_trial h2 B, h3, h4, h5, h6, h7⟩
theorem Tw.inv {k : Nat} {F G : FT} (h : Tw (k + 1) F G) : F.now.inv (5000 * k + 5000) := ST.inv_le h.2.2.1 (by omega)
section
variable {k : Nat} {F G : FT}
theorem tw_leak (h : Tw (k + 1) F G) (v : Int32) : ∃ (r : Int32) (F' G' : FT), Con yX6_leak cX6_leak 3 (some .int) 4 fpW [.ref 0, .int v] F (some (.int r)) F' ∧ Con yX6_leak cX6_leak 3 (some .int) 4 fpW [.ref 0, .int v] G (some (.int r)) G' ∧ Tw k F' G' := by
  have h1 := con_X6_leak F v h.1
  have h2 := con_X6_leak G v h.2.1
  obtain ⟨-, -, i, s, z, t, Y, e, hz, hY⟩ := id h
  rw [e] at h2
  by_cases c : inR v 0 1000 = true
  · rw [if_neg (by rw [c]; decide), if_pos c] at h1 h2
    refine ⟨_, _, _, h1, h2, Tw.op (T := F.now.sLeak v) h (ST.leak_inv h.inv v) ⟨s.1, rng_mono (inR_rng c) (by decide) (by decide), s.2.2⟩ z ?_ hz hY⟩
    show F.now.time.toInt ≤ _
    omega
  · rw [if_neg c] at h1 h2
    rw [if_pos (bnot c)] at h1 h2
    exact ⟨_, _, _, h1, h2, h.less⟩
theorem tw_fill (h : Tw (k + 1) F G) (v : Int32) : ∃ (r : Int32) (F' G' : FT), Con yX6_fill cX6_fill 3 (some .int) 4 fpW [.ref 0, .int v] F (some (.int r)) F' ∧ Con yX6_fill cX6_fill 3 (some .int) 4 fpW [.ref 0, .int v] G (some (.int r)) G' ∧ Tw k F' G' := by
  have h1 := con_X6_fill F v h.1
  have h2 := con_X6_fill G v h.2.1
  obtain ⟨-, -, i, s, z, t, Y, e, hz, hY⟩ := id h
  rw [e] at h2
  by_cases c : inR v 0 20000 = true
  · rw [if_neg (by rw [c]; decide), if_pos c] at h1 h2
    refine ⟨_, _, _, h1, h2, Tw.op (T := F.now.sLevel v) h (ST.level_inv h.inv (rng_mono (inR_rng c) (by decide) (by decide))) s z ?_ hz hY⟩
    show F.now.time.toInt ≤ _
    omega
  · rw [if_neg c] at h1 h2
    rw [if_pos (bnot c)] at h1 h2
    exact ⟨_, _, _, h1, h2, h.less⟩
theorem tw_reset (h : Tw (k + 1) F G) : ∃ (r : Int32) (F' G' : FT), Con yX6_reset cX6_reset 2 (some .int) 4 fpW [.ref 0] F (some (.int r)) F' ∧ Con yX6_reset cX6_reset 2 (some .int) 4 fpW [.ref 0] G (some (.int r)) G' ∧ Tw k F' G' := by
  have h1 := con_X6_reset F h.1
  have h2 := con_X6_reset G h.2.1
  obtain ⟨-, -, i, s, z, t, Y, e, hz, hY⟩ := id h
  rw [e] at h2
  have h2 : Con yX6_reset cX6_reset 2 (some .int) 4 fpW [.ref 0] G (some (.int (if F.now.trips = 0 then -1000002 else F.now.trips))) (if F.now.trips = 0 then G else G.remember.sNow ((F.now.sTrips 0).sZ Y).goOn) := h2
  rw [ST.goOn_sZ] at h2
  by_cases c : F.now.trips = 0
  · rw [if_pos c, if_pos c] at h1 h2
    exact ⟨_, _, _, h1, h2, h.less⟩
  · rw [if_neg c, if_neg c] at h1 h2
    have q := ST.goOn_qt (F.now.sTrips 0)
    have a : (F.now.sTrips 0).goOn.inv (5000 * k + 5000) := ST.goOn_inv (ST.trips_inv (ST.inv_le h.2.2.1 (by omega)) 0)
    have b : (F.now.sTrips 0).snd := s
    refine ⟨_, _, _, h1, h2, Tw.op (T := (F.now.sTrips 0).goOn) h a (ST.goOn_snd b) ?_ ?_ ?_ hY⟩
    · exact (ST.goOn_calm _).1.trans z
    · rw [q.1]
      show F.now.time.toInt ≤ _
      omega
    · rw [(ST.goOn_calm _).2.1]
      exact hz
theorem ST.change_sZ (S : ST) (B : ZT) (p is : Int32) : (S.sZ B).change p is = (S.change p is).sZ B := by
  have h := ST.stop_sZ (S.chg p is) B p
  unfold ST.change
  rw [ite_sZ, ← h]
  rfl
theorem tw_service (h : Tw (k + 1) F G) (p is : Int32) : ∃ (r : Int32) (F' G' : FT), Con yX6_service cX6_service 4 (some .int) 4 fpW [.ref 0, .int p, .int is] F (some (.int r)) F' ∧ Con yX6_service cX6_service 4 (some .int) 4 fpW [.ref 0, .int p, .int is] G (some (.int r)) G' ∧ Tw k F' G' := by
  have h1 := con_X6_service F p is h.1
  have h2 := con_X6_service G p is h.2.1
  obtain ⟨-, -, i, s, z, t, Y, e, hz, hY⟩ := id h
  have e2 : G.okServ p is = F.okServ p is := by
    unfold FT.okServ
    rw [e]
    rfl
  rw [e2, e, ST.change_sZ] at h2
  have h2 : Con yX6_service cX6_service 4 (some .int) 4 fpW [.ref 0, .int p, .int is] G (some (.int (if F.okServ p is = false then -1000001 else if F.now.P.inService p.toNatClampNeg = bI (decide (is = 1)) then -1000002 else bI (decide (bI (decide (is = 1)) = 0) && F.now.P.runs p)))) (if F.okServ p is = true ∧ ¬ F.now.P.inService p.toNatClampNeg = bI (decide (is = 1)) then G.remember.sNow ((F.now.change p (bI (decide (is = 1)))).sZ Y) else G) := h2
  by_cases d : F.okServ p is = true ∧ ¬ F.now.P.inService p.toNatClampNeg = bI (decide (is = 1))
  · rw [if_pos d] at h1 h2
    have hc := d.1
    unfold FT.okServ at hc
    rw [Bool.and_eq_true] at hc
    have hb := b01_bI (decide (is = 1))
    have q := ST.change_calm F.now p (bI (decide (is = 1)))
    refine ⟨_, _, _, h1, h2, Tw.op (T := F.now.change p (bI (decide (is = 1)))) h (ST.change_inv (ST.inv_le h.2.2.1 (by omega)) hc.1 hb) (ST.change_snd i s hc.1 hb) (q.1.trans z) ?_ ?_ hY⟩
    · have qt : (F.now.change p (bI (decide (is = 1)))).time = F.now.time := by
        unfold ST.change
        split
        · exact (ST.stop_qt _ _).1
        · rfl
      rw [qt]
      omega
    · rw [q.2.1]
      exact hz
  · rw [if_neg d] at h1 h2
    exact ⟨_, _, _, h1, h2, h.less⟩
theorem tw_pass (h : Tw (k + 1) F G) (m : Int32) : ∃ (r : Int32) (F' G' : FT), Con yX6_pass cX6_pass 3 (some .int) 5 fpW [.ref 0, .int m] F (some (.int r)) F' ∧ Con yX6_pass cX6_pass 3 (some .int) 5 fpW [.ref 0, .int m] G (some (.int r)) G' ∧ Tw k F' G' := by
  have h1 := con_X6_pass F m h.1
  have h2 := con_X6_pass G m h.2.1
  obtain ⟨-, -, i, s, z, t, Y, e, hz, hY⟩ := id h
  rw [e] at h2
  obtain ⟨Y', e2, hz2, hY2⟩ := ST.mins_sZ hz hY m.toNatClampNeg
  rw [e2] at h2
  have h2 : Con yX6_pass cX6_pass 3 (some .int) 5 fpW [.ref 0, .int m] G (some (.int (if inR m 1 240 = false then -1000001 else if 20000 < F.now.time + m then -1000003 else (F.now.mins m.toNatClampNeg).time))) (if inR m 1 240 = true ∧ ¬ 20000 < F.now.time + m then G.remember.sNow ((F.now.mins m.toNatClampNeg).sZ Y') else G) := h2
  by_cases d : inR m 1 240 = true ∧ ¬ 20000 < F.now.time + m
  · rw [if_pos d] at h1 h2
    have hm := (inR_cl (b := 240) d.1 (by omega)).2
    have q := ST.mins_time F.now m.toNatClampNeg
    have iv : F.now.inv (17 * m.toNatClampNeg + (5000 * k + 5000)) := ST.inv_le h.2.2.1 (by omega)
    refine ⟨_, _, _, h1, h2, Tw.op (T := F.now.mins m.toNatClampNeg) h (ST.mins_inv _ iv) (ST.mins_snd s _ iv) (q.2.trans z) ?_ hz2 hY2⟩
    have h0 := i.2.2.2.2.2.2.2.2.1
    have q2 : (F.now.time + nI m.toNatClampNeg).toInt = F.now.time.toInt + (m.toNatClampNeg : Int) := by
      rw [Int32.toInt_add, nI_toInt (by omega)]
      exact Int.bmod_eq_of_le (by omega) (by omega)
    rw [q.1, q2]
    omega
  · rw [if_neg d] at h1 h2
    exact ⟨_, _, _, h1, h2, h.less⟩
theorem is1 {x : Int32} (h : b01 x) : (if x = 0 then (0 : Int32) else 1) = x ∧ inR (1 - x) 0 1 = true ∧ bI (decide (1 - x = 1)) = 1 - x ∧ ¬ x = 1 - x ∧ b01 (1 - x) := by
  rcases h with rfl | rfl
  · exact ⟨rfl, by decide, by decide, by decide, Or.inr (by decide)⟩
  · exact ⟨rfl, by decide, by decide, by decide, Or.inl (by decide)⟩
theorem ZT.has3 {Z : ZT} (h : Z.size = 3) {j : Nat} (hj : j < 3) : Z.has (nI j) = true ∧ Z.has (2 - nI j) = true ∧ (nI j).toNatClampNeg = j ∧ (2 - nI j).toNatClampNeg = 2 - j := by
  unfold ZT.has
  rw [h]
  exact (by decide +kernel : ∀ j, j < 3 → decide (¬ nI j < 0 ∧ nI j < (3 : Int32)) = true ∧ decide (¬ (2 - nI j) < 0 ∧ (2 - nI j) < (3 : Int32)) = true ∧ (nI j).toNatClampNeg = j ∧ (2 - nI j).toNatClampNeg = 2 - j) j hj
theorem tw_open (h : Tw (k + 1) F G) {j : Nat} (hj : j < 3) : ∃ (v r : Int32) (F' G' : FT), Con yX6_zoneOf cX6_zoneOf 4 (some .int) 1 fpW [.ref 0, .int (nI j), .int 1] F (some (.int v)) F ∧ Con yX6_open cX6_open 4 (some .int) 4 fpW [.ref 0, .int (nI j), .int (1 - v)] F (some (.int r)) F' ∧ Con yX6_open cX6_open 4 (some .int) 4 fpW [.ref 0, .int (2 - nI j), .int (1 - v)] G (some (.int r)) G' ∧ Tw k F' G' := by
  obtain ⟨-, -, i, s, z, t, Y, e, hz, hY⟩ := id h
  obtain ⟨a1, a2, a3, a4⟩ := ZT.has3 hz.1.1 hj
  obtain ⟨b1, b2, b3, b4⟩ := ZT.has3 hz.1.2 hj
  have hb : b01 (F.now.Z.isOpen j) := i.2.1.2.1 j (by omega)
  obtain ⟨c1, c2, c3, c4, c5⟩ := is1 hb
  have h0 := con_X6_zoneOf F (nI j) 1 h.1
  rw [a1, if_neg (by decide), a3] at h0
  have e0 : F.now.Z.of j F.now.pressure 1 (nI j) = F.now.Z.isOpen j := by
    unfold ZT.of
    rw [if_neg (by decide), if_pos rfl]
    exact c1
  rw [e0] at h0
  have h1 := con_X6_open F (nI j) (1 - F.now.Z.isOpen j) h.1
  have h2 := con_X6_open G (2 - nI j) (1 - F.now.Z.isOpen j) h.2.1
  have o1 : F.okOpen (nI j) (1 - F.now.Z.isOpen j) = true := by
    unfold FT.okOpen
    rw [a1, c2]
    rfl
  have o2 : G.okOpen (2 - nI j) (1 - F.now.Z.isOpen j) = true := by
    unfold FT.okOpen
    rw [e]
    show (Y.has (2 - nI j) && inR (1 - F.now.Z.isOpen j) 0 1) = true
    rw [b2, c2]
    rfl
  have hy : Y.isOpen (2 - j) = F.now.Z.isOpen j := by
    rw [hz.2.2.2.2.2.1 (2 - j) (by omega), show 2 - (2 - j) = j by omega]
  rw [o1, if_neg (by decide), c3, a3, if_neg c4, if_pos ⟨rfl, c4⟩] at h1
  rw [o2, if_neg (by decide), c3, b4, e] at h2
  have h2 : Con yX6_open cX6_open 4 (some .int) 4 fpW [.ref 0, .int (2 - nI j), .int (1 - F.now.Z.isOpen j)] G (some (.int (if Y.isOpen (2 - j) = 1 - F.now.Z.isOpen j then -1000002 else (Y.sIsOpen (upd Y.isOpen (2 - j) (1 - F.now.Z.isOpen j))).openOnes))) (if true = true ∧ ¬ Y.isOpen (2 - j) = 1 - F.now.Z.isOpen j then G.remember.sNow ((F.now.sZ (F.now.Z.sIsOpen (upd F.now.Z.isOpen j (1 - F.now.Z.isOpen j)))).sZ (Y.sIsOpen (upd Y.isOpen (2 - j) (1 - F.now.Z.isOpen j)))) else G) := h2
  have nz := zs_upd hz hj (1 - F.now.Z.isOpen j)
  rw [hy, if_neg c4, if_pos ⟨rfl, c4⟩, zs_open nz] at h2
  refine ⟨_, _, _, _, h0, h1, h2, Tw.op (T := F.now.sZ (F.now.Z.sIsOpen (upd F.now.Z.isOpen j (1 - F.now.Z.isOpen j)))) h (ST.sZ_inv h.inv (ZT.set_inv h.inv.2.1 ?_ c5)) s z ?_ nz (ZT.set_inv hY ?_ c5)⟩
  · rw [ZT.n3 hz.1.1]; exact hj
  · show F.now.time.toInt ≤ _
    omega
  · rw [ZT.n3 hz.1.2]; omega
/-! what is asked -/
theorem tw_station (h : Tw k F G) (w : Int32) : ∃ r : Int32, Con yX6_station cX6_station 2 (some .int) 3 fpW [.ref 0, .int w] F (some (.int r)) F ∧ Con yX6_station cX6_station 2 (some .int) 3 fpW [.ref 0, .int w] G (some (.int r)) G := by
  have h1 := con_X6_station F w h.1
  have h2 := con_X6_station G w h.2.1
  obtain ⟨-, -, i, s, z, t, Y, e, hz, hY⟩ := h
  rw [e, ST.demand_sZ _ _ (zs_taken hz _)] at h2
  exact ⟨_, h1, h2⟩
theorem tw_pumpOf (h : Tw k F G) (p w : Int32) : ∃ r : Int32, Con yX6_pumpOf cX6_pumpOf 4 (some .int) 2 fpW [.ref 0, .int p, .int w] F (some (.int r)) F ∧ Con yX6_pumpOf cX6_pumpOf 4 (some .int) 2 fpW [.ref 0, .int p, .int w] G (some (.int r)) G := by
  have h1 := con_X6_pumpOf F p w h.1
  have h2 := con_X6_pumpOf G p w h.2.1
  obtain ⟨-, -, i, s, z, t, Y, e, hz, hY⟩ := h
  rw [e] at h2
  exact ⟨_, h1, h2⟩
theorem tw_eventAt (h : Tw k F G) (p w : Int32) : ∃ r : Int32, Con yX6_eventAt cX6_eventAt 5 (some .int) 3 fpW [.ref 0, .int p, .int w] F (some (.int r)) F ∧ Con yX6_eventAt cX6_eventAt 5 (some .int) 3 fpW [.ref 0, .int p, .int w] G (some (.int r)) G := by
  have h1 := con_X6_eventAt F p w h.1
  have h2 := con_X6_eventAt G p w h.2.1
  obtain ⟨-, -, i, s, z, t, Y, e, hz, hY⟩ := h
  rw [e] at h2
  exact ⟨_, h1, h2⟩
theorem tw_readyAt (h : Tw k F G) (p : Int32) : ∃ r : Int32, Con yX6_readyAt cX6_readyAt 3 (some .int) 3 fpW [.ref 0, .int p] F (some (.int r)) F ∧ Con yX6_readyAt cX6_readyAt 3 (some .int) 3 fpW [.ref 0, .int p] G (some (.int r)) G := by
  have h1 := con_X6_readyAt F p h.1
  have h2 := con_X6_readyAt G p h.2.1
  obtain ⟨-, -, i, s, z, t, Y, e, hz, hY⟩ := h
  rw [e] at h2
  exact ⟨_, h1, h2⟩
theorem tw_balance (h : Tw k F G) : ∃ r : Int32, Con yX6_balance cX6_balance 1 (some .int) 2 fpW [.ref 0] F (some (.int r)) F ∧ Con yX6_balance cX6_balance 1 (some .int) 2 fpW [.ref 0] G (some (.int r)) G := by
  have h1 := con_X6_balance F h.1
  have h2 := con_X6_balance G h.2.1
  obtain ⟨-, -, i, s, z, t, Y, e, hz, hY⟩ := h
  rw [e] at h2
  exact ⟨_, h1, h2⟩
theorem tw_foresee (h : Tw k F G) (m : Int32) : ∃ (r : Int32) (F' G' : FT), Con yX6_foresee cX6_foresee 4 (some .int) 5 fpW [.ref 0, .int m, .int 0] F (some (.int r)) F' ∧ Con yX6_foresee cX6_foresee 4 (some .int) 5 fpW [.ref 0, .int m, .int 0] G (some (.int r)) G' ∧ Tw k F' G' := by
  have h1 := con_X6_foresee F m 0 h.1
  have h2 := con_X6_foresee G m 0 h.2.1
  obtain ⟨-, -, i, s, z, t, Y, e, hz, hY⟩ := id h
  rw [e] at h2
  obtain ⟨Y', e2, hz2, hY2⟩ := ST.mins_sZ hz hY m.toNatClampNeg
  rw [e2] at h2
  have h2 : Con yX6_foresee cX6_foresee 4 (some .int) 5 fpW [.ref 0, .int m, .int 0] G (some (.int (if okFore m 0 = false then -1000001 else (F.now.mins m.toNatClampNeg).seen 0))) (if okFore m 0 = true then G.sTrial ((F.now.mins m.toNatClampNeg).sZ Y') else G) := h2
  by_cases d : okFore m 0 = true
  · rw [if_pos d] at h1 h2
    exact ⟨_, _, _, h1, h2, h.trial _ _⟩
  · rw [if_neg d] at h1 h2
    exact ⟨_, _, _, h1, h2, h⟩
theorem zs_progs {Z Y : ZT} (h : zs Z Y) {j : Nat} (hj : j < 3) : Y.progsOf (2 - nI j) = Z.progsOf (nI j) := by
  have key : ∀ {Z : ZT}, Z.programmes = 3 → (∀ i, i < 3 → Z.pzones i = nI i) → ∀ z, Z.progsOf z = 0 + bI (decide (nI 0 = z)) + bI (decide (nI 1 = z)) + bI (decide (nI 2 = z)) := fun {Z} hm hp z => by
    unfold ZT.progsOf
    rw [ZT.m3 hm]
    show 0 + bI (decide (Z.pzones 0 = z)) + bI (decide (Z.pzones 1 = z)) + bI (decide (Z.pzones 2 = z)) = _
    rw [hp 0 (by decide), hp 1 (by decide), hp 2 (by decide)]
  rw [key h.2.1.2 (fun i hi => (h.2.2.1 i hi).2), key h.2.1.1 (fun i hi => (h.2.2.1 i hi).1)]
  exact (by decide +kernel : ∀ j, j < 3 → 0 + bI (decide (nI 0 = 2 - nI j)) + bI (decide (nI 1 = 2 - nI j)) + bI (decide (nI 2 = 2 - nI j)) = 0 + bI (decide (nI 0 = nI j)) + bI (decide (nI 1 = nI j)) + bI (decide (nI 2 = nI j))) j hj
theorem tw_zoneOf (h : Tw k F G) {j : Nat} (hj : j < 3) (w : Int32) : ∃ r : Int32, Con yX6_zoneOf cX6_zoneOf 4 (some .int) 1 fpW [.ref 0, .int (nI j), .int w] F (some (.int r)) F ∧ Con yX6_zoneOf cX6_zoneOf 4 (some .int) 1 fpW [.ref 0, .int (2 - nI j), .int w] G (some (.int r)) G := by
  have h1 := con_X6_zoneOf F (nI j) w h.1
  have h2 := con_X6_zoneOf G (2 - nI j) w h.2.1
  obtain ⟨-, -, i, s, z, t, Y, e, hz, hY⟩ := h
  obtain ⟨a1, a2, a3, a4⟩ := ZT.has3 hz.1.1 hj
  obtain ⟨b1, b2, b3, b4⟩ := ZT.has3 hz.1.2 hj
  rw [e] at h2
  have h2 : Con yX6_zoneOf cX6_zoneOf 4 (some .int) 1 fpW [.ref 0, .int (2 - nI j), .int w] G (some (.int (if Y.has (2 - nI j) = false then -1000001 else Y.of (2 - nI j).toNatClampNeg F.now.pressure w (2 - nI j)))) G := h2
  have ev : Y.of (2 - j) F.now.pressure w (2 - nI j) = F.now.Z.of j F.now.pressure w (nI j) := by
    unfold ZT.of
    rw [zs_progs hz hj, zs_takes hz _ (2 - j) (by omega), hz.2.2.2.2.1 (2 - j) (by omega), hz.2.2.2.2.2.1 (2 - j) (by omega), show 2 - (2 - j) = j by omega]
  rw [a1, if_neg (by decide), a3] at h1
  rw [b2, if_neg (by decide), b4, ev] at h2
  exact ⟨_, h1, h2⟩
theorem kept_rng {n : Nat} {t : Int32} {E : ET} (h : E.inv n t) : rng E.kept 0 12 := by
  unfold ET.kept
  split
  · rename_i q
    rw [Int32.lt_iff_toInt_lt] at q
    exact ⟨h.1, Int.le_of_lt q⟩
  · exact ⟨by decide, by decide⟩
theorem tw_count6 (h : Tw k F G) : ∃ n : Nat, n ≤ 12 ∧ Con yX6_count cX6_count 2 (some .int) 2 fpW [.ref 0, .int 6] F (some (.int (nI n))) F := by
  have h1 := con_X6_count F 6 h.1
  have e : F.cnt 6 = F.now.E.kept := rfl
  rw [e] at h1
  obtain ⟨n, e2, h2, h3⟩ := rng_nI (kept_rng h.2.2.1.2.2.2.2.2.2.2.1) (by decide)
  rw [e2] at h1
  exact ⟨n, by omega, h1⟩
end
