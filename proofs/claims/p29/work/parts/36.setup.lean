/-! ===== the stations as the law sets them up ===== -/
section
variable (a : Nat → Int32)
def kd (i : Nat) : Int32 := up (a i) 3
def sf (i : Nat) : Int32 := 400 + up (a i >>> ((2 : Int32) &&& 31)) 900
def sp (i : Nat) : Int32 := 1 + up (a i >>> ((12 : Int32) &&& 31)) 80
def dm (i : Nat) : Int32 := 10 + up (a i) 400
def frm (i : Nat) : Int32 := up (a i) 200
def PK (k : Nat) : PT := it (fun i P => P.add (kd a i) (sf a i) (sp a i)) P0 k
end
def ZK (f : Nat → Int32) (k : Nat) : ZT := it (fun i Z => Z.add (f i)) Z0 k
def ZP (f g : Nat → Int32) (Z : ZT) (k : Nat) : ZT := it (fun i T => T.addP (nI i) (f i) (g i)) Z k
theorem up_rng (v : Int32) {d : Nat} (h0 : 0 < d) (hd : d < 100000) : ∃ m : Nat, m < d ∧ up v (nI d) = nI m := ⟨upN v d, upN_lt v h0, up_nI v h0 (by omega)⟩
theorem inR_of {x : Int32} {m l u : Nat} (e : x = nI m) (h1 : l ≤ m) (h2 : m ≤ u) (h3 : u < 100000) : inR x (nI l) (nI u) = true := by
  subst e
  unfold inR
  rw [decide_eq_true_eq, nI_ltI (by omega) (by omega), nI_ltI (by omega) (by omega)]
  omega
theorem rng_of {x : Int32} {m l u : Nat} (e : x = nI m) (h1 : l ≤ m) (h2 : m ≤ u) (h3 : u < 100000) : rng x l u := by
  subst e
  unfold rng
  rw [nI_toInt (by omega)]
  omega
section
variable (a : Nat → Int32) (i : Nat)
theorem kd_n : ∃ m : Nat, m < 3 ∧ kd a i = nI m := up_rng (a i) (d := 3) (by decide) (by decide)
theorem sf_n : ∃ m : Nat, 400 ≤ m ∧ m < 1300 ∧ sf a i = nI m := by
  obtain ⟨m, h, e⟩ := up_rng (a i >>> ((2 : Int32) &&& 31)) (d := 900) (by decide) (by decide)
  refine ⟨400 + m, by omega, by omega, ?_⟩
  show (400 : Int32) + up (a i >>> ((2 : Int32) &&& 31)) 900 = _
  rw [show (900 : Int32) = nI 900 from rfl, e, show (400 : Int32) = nI 400 from rfl, nI_add]
theorem sp_n : ∃ m : Nat, 1 ≤ m ∧ m < 81 ∧ sp a i = nI m := by
  obtain ⟨m, h, e⟩ := up_rng (a i >>> ((12 : Int32) &&& 31)) (d := 80) (by decide) (by decide)
  refine ⟨1 + m, by omega, by omega, ?_⟩
  show (1 : Int32) + up (a i >>> ((12 : Int32) &&& 31)) 80 = _
  rw [show (80 : Int32) = nI 80 from rfl, e, show (1 : Int32) = nI 1 from rfl, nI_add]
theorem dm_n : ∃ m : Nat, 10 ≤ m ∧ m < 410 ∧ dm a i = nI m := by
  obtain ⟨m, h, e⟩ := up_rng (a i) (d := 400) (by decide) (by decide)
  refine ⟨10 + m, by omega, by omega, ?_⟩
  show (10 : Int32) + up (a i) 400 = _
  rw [show (400 : Int32) = nI 400 from rfl, e, show (10 : Int32) = nI 10 from rfl, nI_add]
theorem frm_n : ∃ m : Nat, m < 200 ∧ frm a i = nI m := up_rng (a i) (d := 200) (by decide) (by decide)
theorem okP : okPump (kd a i) (sf a i) (sp a i) = true := by
  obtain ⟨m1, h1, e1⟩ := kd_n a i
  obtain ⟨m2, h2, h3, e2⟩ := sf_n a i
  obtain ⟨m4, h4, h5, e4⟩ := sp_n a i
  have q1 : inR (kd a i) 0 2 = true := inR_of (l := 0) (u := 2) e1 (by omega) (by omega) (by decide)
  have q2 : inR (sf a i) 100 2000 = true := inR_of (l := 100) (u := 2000) e2 (by omega) (by omega) (by decide)
  have q3 : inR (sp a i) 1 1000 = true := inR_of (l := 1) (u := 1000) e4 (by omega) (by omega) (by decide)
  unfold okPump
  rw [q1, q2, q3]
  rfl
theorem okZ : inR (dm a i) 1 1000 = true := by
  obtain ⟨m, h1, h2, e⟩ := dm_n a i
  exact inR_of (l := 1) (u := 1000) e (by omega) (by omega) (by decide)
end
theorem PK_s (a : Nat → Int32) (k : Nat) : PK a (k + 1) = (PK a k).add (kd a k) (sf a k) (sp a k) := rfl
theorem ZK_s (f : Nat → Int32) (k : Nat) : ZK f (k + 1) = (ZK f k).add (f k) := rfl
theorem ZP_s (f g : Nat → Int32) (Z : ZT) (k : Nat) : ZP f g Z (k + 1) = (ZP f g Z k).addP (nI k) (f k) (g k) := rfl
theorem PK_ok (a : Nat → Int32) : ∀ k, k ≤ 6 → (PK a k).inv ∧ (PK a k).size = nI k ∧ (PK a k).vrb = -1 ∧ (PK a k).speeds = zf ∧ (PK a k).minutes = zf ∧ (PK a k).since = zf ∧ ∀ i, i < k → (PK a k).kinds i = kd a i
  | 0, _ => ⟨P0_inv, rfl, rfl, rfl, rfl, rfl, fun i hi => absurd hi (Nat.not_lt_zero i)⟩
  | k + 1, hk => by
    obtain ⟨h1, h2, h3, h4, h5, h6, h7⟩ := PK_ok a k (by omega)
    obtain ⟨m2, q2, q3, e2⟩ := sf_n a k
    obtain ⟨m4, q4, q5, e4⟩ := sp_n a k
    have hn : (PK a k).n = k := by
      unfold PT.n
      rw [h2, nI_clamp (by omega)]
    rw [PK_s]
    refine ⟨PT.add_inv h1 ?_ (rng_of (l := 0) (u := 2000) e2 (by omega) (by omega) (by decide)) (rng_of (l := 1) (u := 1000) e4 (by omega) (by omega) (by decide)), ?_, h3, h4, h5, h6, fun i hi => ?_⟩
    · rw [h2, show (6 : Int32) = nI 6 from rfl, nI_ltI (by omega) (by omega)]
      omega
    · show (PK a k).size + 1 = nI (k + 1)
      rw [h2, nI_1]
    · show upd (PK a k).kinds (PK a k).n (kd a k) i = kd a i
      rw [hn]
      by_cases c : i = k
      · rw [c, upd_at]
      · rw [upd_off _ _ c]
        exact h7 i (by omega)
theorem ZK_ok (f : Nat → Int32) : ∀ k, k ≤ 8 → (ZK f k).inv ∧ (ZK f k).size = nI k ∧ (ZK f k).programmes = 0 ∧ (ZK f k).isOpen = zf ∧ ∀ i, i < k → (ZK f k).demands i = f i
  | 0, _ => ⟨Z0_inv, rfl, rfl, rfl, fun i hi => absurd hi (Nat.not_lt_zero i)⟩
  | k + 1, hk => by
    obtain ⟨h1, h2, h3, h4, h7⟩ := ZK_ok f k (by omega)
    have hn : (ZK f k).n = k := by
      unfold ZT.n
      rw [h2, nI_clamp (by omega)]
    rw [ZK_s]
    refine ⟨ZT.add_inv h1 ?_ _, ?_, h3, h4, fun i hi => ?_⟩
    · rw [h2, show (8 : Int32) = nI 8 from rfl, nI_ltI (by omega) (by omega)]
      omega
    · show (ZK f k).size + 1 = nI (k + 1)
      rw [h2, nI_1]
    · show upd (ZK f k).demands (ZK f k).n (f k) i = f i
      rw [hn]
      by_cases c : i = k
      · rw [c, upd_at]
      · rw [upd_off _ _ c]
        exact h7 i (by omega)
theorem ZP_ok (f g : Nat → Int32) {Z : ZT} (hZ : Z.inv) (hs : Z.size = 3) (hm : Z.programmes = 0) : ∀ k, k ≤ 3 → (ZP f g Z k).inv ∧ (ZP f g Z k).size = 3 ∧ (ZP f g Z k).programmes = nI k ∧ (ZP f g Z k).isOpen = Z.isOpen ∧ (ZP f g Z k).demands = Z.demands ∧ ∀ i, i < k → (ZP f g Z k).pzones i = nI i ∧ (ZP f g Z k).opening i = f i ∧ (ZP f g Z k).closing i = g i
  | 0, _ => ⟨hZ, hs, hm, rfl, rfl, fun i hi => absurd hi (Nat.not_lt_zero i)⟩
  | k + 1, hk => by
    obtain ⟨h1, h2, h3, h4, h5, h7⟩ := ZP_ok f g hZ hs hm k (by omega)
    have hn : (ZP f g Z k).m = k := by
      unfold ZT.m
      rw [h3, nI_clamp (by omega)]
    rw [ZP_s]
    refine ⟨ZT.addP_inv h1 ?_ (ZT.has3 h2 (j := k) (by omega)).1 _ _, h2, ?_, h4, h5, fun i hi => ?_⟩
    · rw [h3, show (8 : Int32) = nI 8 from rfl, nI_ltI (by omega) (by omega)]
      omega
    · show (ZP f g Z k).programmes + 1 = nI (k + 1)
      rw [h3, nI_1]
    · show upd (ZP f g Z k).pzones (ZP f g Z k).m (nI k) i = nI i ∧ upd (ZP f g Z k).opening (ZP f g Z k).m (f k) i = f i ∧ upd (ZP f g Z k).closing (ZP f g Z k).m (g k) i = g i
      rw [hn]
      by_cases c : i = k
      · rw [c, upd_at, upd_at, upd_at]
        exact ⟨rfl, rfl, rfl⟩
      · rw [upd_off _ _ c, upd_off _ _ c, upd_off _ _ c]
        exact h7 i (by omega)
/-- a station of so many pumps, with these zones -/
def TK (a : Nat → Int32) (k : Nat) (Z : ZT) : ST := (S0.sP (PK a k)).sZ Z
theorem TK_inv (a : Nat → Int32) {k : Nat} (hk : k ≤ 6) {Z : ZT} (hZ : Z.inv) {n : Nat} (hn : n ≤ 2147483000) : (TK a k Z).inv n := ST.sZ_inv (ST.sP_inv (S0_inv hn) (PK_ok a k hk).1) hZ
theorem TK_eq (a : Nat → Int32) (k : Nat) (Z : ZT) : (TK a k Z).P = PK a k ∧ (TK a k Z).Z = Z ∧ (TK a k Z).time = 0 ∧ (TK a k Z).leak = 0 ∧ (TK a k Z).dry = 0 ∧ (TK a k Z).settings = firstS := ⟨rfl, rfl, rfl, rfl, rfl, rfl⟩
theorem TK_snd (a : Nat → Int32) (Z : ZT) : (TK a 3 Z).snd := by
  obtain ⟨e1, -, e3, e4, e5, -⟩ := TK_eq a 3 Z
  obtain ⟨p1, p2, p3, p4, p5, p6, p7⟩ := PK_ok a 3 (by decide)
  have hn : (PK a 3).n = 3 := by
    unfold PT.n
    rw [p2]
    rfl
  refine ⟨?_, ?_, ?_⟩
  · rw [e1, e3]
    intro i hi
    rw [hn] at hi
    obtain ⟨m, m1, m2⟩ := kd_n a i
    unfold PT.row1
    rw [p3, p4, p5, p6, p7 i hi]
    refine ⟨rng_of (l := 0) (u := 2) m2 (by omega) (by omega) (by decide), Or.inl rfl, Or.inl rfl, fun z => ?_, ?_, ?_, ?_⟩
    · have e := congrArg Int32.toInt z
      rw [nI_toInt (by omega)] at e
      have : (-1 : Int32).toInt = -1 := by decide
      omega
    · show 0 ≤ (0 : Int32).toInt
      decide
    · exact Int.le_refl _
    · exact Int.le_refl _
  · rw [e4]
    exact ⟨by decide, by decide⟩
  · exact fun z => absurd e5 z
section
variable {F : FT} {a : Nat → Int32}
theorem now_rem {T : ST} {n : Nat} (hg : F.good) (hT : T.inv n) : (F.remember.sNow T).good ∧ (F.remember.sNow T).now = T := ⟨good_rem hg hT, rem_now _ _⟩
theorem su_pump {k : Nat} (hk : k < 6) {Z : ZT} (hZ : Z.inv) (hg : F.good) (hn : F.now = TK a k Z) : ∃ F' : FT, Con yX6_pump cX6_pump 4 (some .int) 4 fpW [.ref 0, .int (kd a k), .int (sf a k), .int (sp a k)] F (some (.int (nI k))) F' ∧ F'.good ∧ F'.now = TK a (k + 1) Z := by
  have h1 := con_X6_pump F (kd a k) (sf a k) (sp a k) hg
  have hs : F.now.P.size = nI k := by
    rw [hn, (TK_eq a k Z).1]
    exact (PK_ok a k (by omega)).2.1
  have hlt : F.now.P.size < 6 := by
    rw [hs, show (6 : Int32) = nI 6 from rfl, nI_ltI (by omega) (by omega)]
    exact hk
  rw [okP, if_neg (by decide), if_pos hlt, if_pos ⟨rfl, hlt⟩, hs] at h1
  have e : F.now.sP (F.now.P.add (kd a k) (sf a k) (sp a k)) = TK a (k + 1) Z := by
    rw [hn]
    unfold TK
    rw [PK_s]
    rfl
  rw [e] at h1
  exact ⟨_, h1, now_rem hg (TK_inv a (k := k + 1) (by omega) hZ (n := 0) (by omega))⟩
theorem su_zone {k : Nat} (hk : k < 6) {f : Nat → Int32} {j : Nat} (hj : j < 8) (hf : ∃ i, f j = dm a i) (hg : F.good) (hn : F.now = TK a k (ZK f j)) : ∃ F' : FT, Con yX6_zone cX6_zone 2 (some .int) 4 fpW [.ref 0, .int (f j)] F (some (.int (nI j))) F' ∧ F'.good ∧ F'.now = TK a k (ZK f (j + 1)) := by
  have h1 := con_X6_zone F (f j) hg
  have hs : F.now.Z.size = nI j := by
    rw [hn, (TK_eq a k _).2.1]
    exact (ZK_ok f j (by omega)).2.1
  have hlt : F.now.Z.size < 8 := by
    rw [hs, show (8 : Int32) = nI 8 from rfl, nI_ltI (by omega) (by omega)]
    exact hj
  have ho : inR (f j) 1 1000 = true := by
    obtain ⟨i, e⟩ := hf
    rw [e]
    exact okZ a i
  rw [ho, if_neg (by decide), if_pos hlt, if_pos ⟨rfl, hlt⟩, hs] at h1
  have e : F.now.sZ (F.now.Z.add (f j)) = TK a k (ZK f (j + 1)) := by
    rw [hn, ZK_s]
    rfl
  rw [e] at h1
  exact ⟨_, h1, now_rem hg (TK_inv a (by omega) (ZK_ok f (j + 1) (by omega)).1 (n := 0) (by omega))⟩
theorem su_prog {f g : Nat → Int32} {Z : ZT} (hZ : Z.inv) (hs : Z.size = 3) (hm : Z.programmes = 0) {j : Nat} (hj : j < 3) (hf : ∃ m : Nat, m < 200 ∧ f j = nI m) (hgg : ∃ m : Nat, 200 ≤ m ∧ m < 300 ∧ g j = nI m) (hg : F.good) (hn : F.now = TK a 3 (ZP f g Z j)) : ∃ F' : FT, Con yX6_programme cX6_programme 4 (some .int) 4 fpW [.ref 0, .int (nI j), .int (f j), .int (g j)] F (some (.int (nI (j + 1)))) F' ∧ F'.good ∧ F'.now = TK a 3 (ZP f g Z (j + 1)) := by
  have h1 := con_X6_programme F (nI j) (f j) (g j) hg
  obtain ⟨z1, z2, z3, z4⟩ := ZP_ok f g hZ hs hm j (by omega)
  have hz : F.now.Z = ZP f g Z j := by rw [hn]; exact (TK_eq a 3 _).2.1
  have hlt : F.now.Z.programmes < 8 := by
    rw [hz, z3, show (8 : Int32) = nI 8 from rfl, nI_ltI (by omega) (by omega)]
    omega
  obtain ⟨m1, q1, e1⟩ := hf
  obtain ⟨m2, q2, q3, e2⟩ := hgg
  have ho : F.okProg (nI j) (f j) (g j) = true := by
    unfold FT.okProg
    have a1 : F.now.Z.has (nI j) = true := by rw [hz]; exact (ZT.has3 z2 hj).1
    have a2 : inR (f j) 0 1439 = true := inR_of (l := 0) (u := 1439) e1 (by omega) (by omega) (by decide)
    have a3 : inR (g j) 0 1439 = true := inR_of (l := 0) (u := 1439) e2 (by omega) (by omega) (by decide)
    have a4 : ¬ f j = g j := by
      rw [e1, e2, nI_eq (by omega) (by omega)]
      omega
    rw [a1, a2, a3, decide_eq_true a4]
    rfl
  rw [ho, if_neg (by decide), if_pos hlt, if_pos ⟨rfl, hlt⟩, hz, z3, nI_1] at h1
  have e : F.now.sZ ((ZP f g Z j).addP (nI j) (f j) (g j)) = TK a 3 (ZP f g Z (j + 1)) := by
    rw [hn, ZP_s]
    rfl
  rw [e] at h1
  exact ⟨_, h1, now_rem hg (TK_inv a (by decide) (ZP_ok f g hZ hs hm (j + 1) (by omega)).1 (n := 0) (by omega))⟩
end
/-- the law's two stations, set up -/
def ZO (a : Nat → Int32) : ZT := ZP (fun i => frm a (6 + i)) (fun i => nI (200 + i)) (ZK (fun i => dm a (3 + i)) 3) 3
def ZQ (a : Nat → Int32) : ZT := ZP (fun i => frm a (8 - i)) (fun i => nI (202 - i)) (ZK (fun i => dm a (5 - i)) 3) 3
theorem zs_su (a : Nat → Int32) : zs (ZO a) (ZQ a) ∧ (ZO a).inv ∧ (ZQ a).inv := by
  obtain ⟨k1, k2, k3, k4, k5⟩ := ZK_ok (fun i => dm a (3 + i)) 3 (by decide)
  obtain ⟨l1, l2, l3, l4, l5⟩ := ZK_ok (fun i => dm a (5 - i)) 3 (by decide)
  obtain ⟨p1, p2, p3, p4, p5, p6⟩ := ZP_ok (fun i => frm a (6 + i)) (fun i => nI (200 + i)) k1 k2 k3 3 (by decide)
  obtain ⟨q1, q2, q3, q4, q5, q6⟩ := ZP_ok (fun i => frm a (8 - i)) (fun i => nI (202 - i)) l1 l2 l3 3 (by decide)
  refine ⟨⟨⟨p2, q2⟩, ⟨p3, q3⟩, fun i hi => ⟨(p6 i hi).1, (q6 i hi).1⟩, fun i hi => ?_, fun i hi => ?_, fun i hi => ?_, fun i hi => ?_, fun i hi => ?_⟩, p1, q1⟩
  · unfold ZO
    rw [p5, k5 i hi]
    obtain ⟨m, m1, m2, m3⟩ := dm_n a (3 + i)
    exact rng_of (l := 1) (u := 1000) m3 (by omega) (by omega) (by decide)
  · unfold ZO ZQ
    rw [p5, q5, k5 (2 - i) (by omega), l5 i hi]
    show dm a (5 - i) = dm a (3 + (2 - i))
    rw [show 3 + (2 - i) = 5 - i by omega]
  · unfold ZO ZQ
    rw [p4, q4, k4, l4]
    rfl
  · unfold ZO ZQ
    rw [(p6 (2 - i) (by omega)).2.1, (q6 i hi).2.1]
    show frm a (8 - i) = frm a (6 + (2 - i))
    rw [show 6 + (2 - i) = 8 - i by omega]
  · unfold ZO ZQ
    rw [(p6 (2 - i) (by omega)).2.2, (q6 i hi).2.2]
    show nI (202 - i) = nI (200 + (2 - i))
    rw [show 200 + (2 - i) = 202 - i by omega]
theorem su_set {F : FT} {a : Nat → Int32} {Z : ZT} (hZ : Z.inv) (hg : F.good) (hn : F.now = TK a 3 Z) {m : Nat} (hm : m < 60) : ∃ F' : FT, ConS yX6_set cX6_set 4 (some .int) 4 fpW [.ref 0, .int 18, .int (nI m)] F (some (.int 0)) F' ∧ F'.good ∧ F'.now = (TK a 3 Z).sSettings (upd firstS 18 (nI m)) ∧ ((TK a 3 Z).sSettings (upd firstS 18 (nI m))).inv 175000 := by
  have h1 := con_X6_set F 18 (nI m) hg
  have ho : isSet 18 (nI m) = true := by
    have q : inR (nI m) 0 1440 = true := inR_of (l := 0) (u := 1440) rfl (by omega) (by omega) (by decide)
    unfold isSet
    rw [show inR 18 0 18 = true from by decide, show leastS (18 : Int32).toNatClampNeg = 0 from rfl, show mostS (18 : Int32).toNatClampNeg = 1440 from rfl, q]
    rfl
  have hi : ((TK a 3 Z).sSettings (upd firstS 18 (nI m))).inv 175000 := ST.set_inv (TK_inv a (by decide) hZ (by decide)) (setOk_upd (w := 18) setOk0 ho)
  rw [ho, if_neg (by decide), if_pos rfl, hn, (TK_eq a 3 Z).2.2.2.2.2] at h1
  exact ⟨_, h1, good_rem hg hi, rem_now _ _, hi⟩
theorem tw_su {F G : FT} {a : Nat → Int32} {m : Nat} (hg : F.good) (hh : G.good) (hF : F.now = (TK a 3 (ZO a)).sSettings (upd firstS 18 (nI m))) (hG : G.now = (TK a 3 (ZQ a)).sSettings (upd firstS 18 (nI m))) (hi : ((TK a 3 (ZO a)).sSettings (upd firstS 18 (nI m))).inv 175000) : Tw 34 F G := by
  obtain ⟨z1, z2, z3⟩ := zs_su a
  refine ⟨hg, hh, ?_, ?_, ?_, ?_, ZQ a, ?_, ?_, z3⟩
  · rw [hF]; exact hi
  · rw [hF]; exact ST.set_snd (TK_snd a _) _
  · rw [hF]
    exact (PK_ok a 3 (by decide)).2.1
  · rw [hF]
    show (0 : Int32).toInt + 240 * ((34 : Nat) : Int) ≤ 19000
    decide
  · rw [hF, hG]
    rfl
  · rw [hF]
    exact z1
