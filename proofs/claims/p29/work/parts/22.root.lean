/-! ===== roots and flows ===== -/
def rootN (v : Nat) : Nat := it (fun k r => if v < (r + 1024 / 2 ^ k) * (r + 1024 / 2 ^ k) then r else r + 1024 / 2 ^ k) 0 11
theorem bit2 : ∀ k, k < 11 → 2048 / 2 ^ k = 2 * (1024 / 2 ^ k) ∧ 2048 / 2 ^ (k + 1) = 1024 / 2 ^ k := by decide +kernel
theorem rootN_inv {v : Nat} (hv : v < 2048 * 2048) : ∀ k, k ≤ 11 → (fun r : Nat => r * r ≤ v ∧ v < (r + 2048 / 2 ^ k) * (r + 2048 / 2 ^ k) ∧ r + 2048 / 2 ^ k ≤ 2048) (it (fun k r => if v < (r + 1024 / 2 ^ k) * (r + 1024 / 2 ^ k) then r else r + 1024 / 2 ^ k) 0 k) := by
  intro k
  induction k with
  | zero =>
    intro _
    refine ⟨Nat.zero_le _, ?_, ?_⟩
    · show v < (0 + 2048 / 2 ^ 0) * (0 + 2048 / 2 ^ 0)
      simpa using hv
    · show 0 + 2048 / 2 ^ 0 ≤ 2048
      simp
  | succ k ih =>
    intro hk
    have h := ih (by omega)
    obtain ⟨b1, b2⟩ := bit2 k (by omega)
    rw [it]
    generalize it (fun k r => if v < (r + 1024 / 2 ^ k) * (r + 1024 / 2 ^ k) then r else r + 1024 / 2 ^ k) 0 k = r at h ⊢
    rw [b2]
    rw [b1] at h
    generalize 1024 / 2 ^ k = b at h ⊢
    obtain ⟨h1, h2, h3⟩ := h
    split
    · rename_i q
      exact ⟨h1, q, by omega⟩
    · rename_i q
      rw [show r + 2 * b = r + b + b by omega] at h2
      exact ⟨by omega, h2, by omega⟩
theorem rootN_ok {v : Nat} (hv : v < 2048 * 2048) : rootN v * rootN v ≤ v ∧ v < (rootN v + 1) * (rootN v + 1) ∧ rootN v + 1 ≤ 2048 := rootN_inv hv 11 (Nat.le_refl _)
theorem root_nI {v : Nat} (hv : v < 2048 * 2048) : root (nI v) = nI (rootN v) := by
  have key : ∀ k, k ≤ 11 → it (fun k r => if nI v < (r + nI (1024 / 2 ^ k)) * (r + nI (1024 / 2 ^ k)) then r else r + nI (1024 / 2 ^ k)) 0 k = nI (it (fun k r => if v < (r + 1024 / 2 ^ k) * (r + 1024 / 2 ^ k) then r else r + 1024 / 2 ^ k) 0 k) := by
    intro k
    induction k with
    | zero => exact fun _ => rfl
    | succ k ih =>
      intro hk
      have h3 := (rootN_inv hv k (by omega)).2.2
      obtain ⟨b1, b2⟩ := bit2 k (by omega)
      rw [it, it, ih (by omega)]
      generalize it (fun k r => if v < (r + 1024 / 2 ^ k) * (r + 1024 / 2 ^ k) then r else r + 1024 / 2 ^ k) 0 k = r at h3 ⊢
      rw [b1] at h3
      generalize 1024 / 2 ^ k = b at h3 ⊢
      rw [nI_add, pk_mul]
      have hb : (r + b) * (r + b) ≤ 2048 * 2048 := Nat.mul_le_mul (by omega) (by omega)
      have hq := nI_ltI (a := v) (b := (r + b) * (r + b)) (by omega) (by omega)
      by_cases q : v < (r + b) * (r + b)
      · rw [if_pos q, if_pos (hq.mpr q)]
      · rw [if_neg q, if_neg (fun z => q (hq.mp z))]
  exact key 11 (Nat.le_refl _)
theorem rngN {x : Int32} {a b : Nat} (h : rng x a b) : ∃ n : Nat, x = nI n ∧ a ≤ n ∧ n ≤ b ∧ n < 2147483648 := by
  obtain ⟨n, h1, h2, h3⟩ := rng_nI h (by omega)
  exact ⟨n, h1, by omega, by omega, h3⟩
theorem flow_facts {S : PT} {i : Nat} {sp pr : Int32} (h1 : rng (S.shutoffs i) 0 2000) (h2 : rng (S.steeps i) 1 1000) (h3 : rng sp 0 1000) (h4 : rng pr 0 2000) : ∃ L q V : Nat, (q < L → V < 4000000) ∧ S.flowOf i sp pr = (if q < L then nI (rootN V) else 0) := by
  obtain ⟨a, ea, a1, a2, a3⟩ := rngN (a := 0) (b := 2000) h1
  obtain ⟨t, et, t1, t2, t3⟩ := rngN (a := 1) (b := 1000) h2
  obtain ⟨s, es, s1, s2, s3⟩ := rngN (a := 0) (b := 1000) h3
  obtain ⟨q, eq, q1, q2, q3⟩ := rngN (a := 0) (b := 2000) h4
  have m1 : a * s ≤ 2000 * 1000 := Nat.mul_le_mul a2 s2
  have m2 : a * s * s ≤ 2000 * 1000 * 1000 := Nat.mul_le_mul m1 s2
  have m3 : a * s * s / 1000000 ≤ 2000 := by omega
  have m4 : (a * s * s / 1000000 - q) * 1000 / t ≤ (a * s * s / 1000000 - q) * 1000 := Nat.div_le_self _ _
  refine ⟨a * s * s / 1000000, q, (a * s * s / 1000000 - q) * 1000 / t, fun hq => by omega, ?_⟩
  · unfold PT.flowOf
    have c1 : nI q < nI (a * s * s / 1000000) ↔ q < a * s * s / 1000000 := nI_ltI (by omega) (by omega)
    have c2 : (0 : Int32) < nI t := by
      rw [show (0 : Int32) = nI 0 from rfl, nI_ltI (by omega) (by omega)]
      omega
    rw [ea, et, es, eq, pk_mul, pk_mul, show (1000000 : Int32) = nI 1000000 from rfl, pk_div (by omega) (by omega) (by omega)]
    by_cases z : q < a * s * s / 1000000
    · rw [if_pos z, if_neg (fun h => h.elim (fun h => h (c1.mpr z)) (fun h => h c2)), pk_sub (by omega), show (1000 : Int32) = nI 1000 from rfl, pk_mul, pk_div (by omega) (by omega) (by omega), root_nI (by omega)]
    · rw [if_neg z, if_pos (Or.inl (fun h => z (c1.mp h)))]
theorem flowOf_rng {S : PT} {i : Nat} {sp pr : Int32} (h1 : rng (S.shutoffs i) 0 2000) (h2 : rng (S.steeps i) 1 1000) (h3 : rng sp 0 1000) (h4 : rng pr 0 2000) : rng (S.flowOf i sp pr) 0 2047 := by
  obtain ⟨L, q, V, e4, e6⟩ := flow_facts h1 h2 h3 h4
  rw [e6]
  split
  · rename_i c
    have h5 := rootN_ok (v := V) (by have := e4 c; omega)
    unfold rng
    rw [nI_toInt (by omega)]
    omega
  · exact ⟨by decide, by decide⟩
theorem add_rng {x y : Int32} {a b c d : Int} (h : rng x a b) (g : rng y c d) (h0 : -2147483648 ≤ a + c) (h1 : b + d < 2147483648) : rng (x + y) (a + c) (b + d) := by
  have e : (x + y).toInt = x.toInt + y.toInt := by
    rw [Int32.toInt_add]
    unfold rng at h g
    exact Int.bmod_eq_of_le (by omega) (by omega)
  unfold rng at *
  rw [e]
  omega
theorem PT.flow_rng {S : PT} (h : S.inv) {pr : Int32} (h4 : rng pr 0 2000) : rng (S.flow pr) 0 20000 := by
  have h6 := h.1.2.1
  have := it_inv (f := fun p r => r + S.flowOf p (S.speeds p) pr) (a := (0 : Int32)) (n := S.n) (fun i r => rng r 0 (2047 * i)) ⟨by decide, by decide⟩ (fun i r hi hr => by
    obtain ⟨h1, h2, h3, _⟩ := h.2.1 i hi
    have := add_rng hr (flowOf_rng h1 h2 h3 h4) (by omega) (by omega)
    exact rng_mono this (by omega) (by omega))
  exact rng_mono this (by omega) (by omega)
theorem sub_rng {x y : Int32} {a b c d : Int} (h : rng x a b) (g : rng y c d) (h0 : -2147483648 ≤ a - d) (h1 : b - c < 2147483648) : rng (x - y) (a - d) (b - c) := by
  have e : (x - y).toInt = x.toInt - y.toInt := by
    rw [Int32.toInt_sub]
    unfold rng at h g
    exact Int.bmod_eq_of_le (by omega) (by omega)
  unfold rng at *
  rw [e]
  omega
theorem ST.sup_rng {S : ST} {n : Nat} (h : S.inv n) : rng S.sup 0 S.level.toInt := by
  have h1 := PT.flow_rng h.1 h.2.2.2.2.2.1
  have h2 := h.2.2.2.2.2.2.1
  unfold ST.sup
  split
  · rename_i q
    rw [Int32.lt_iff_toInt_lt] at q
    unfold rng at *
    omega
  · unfold rng at *
    omega
theorem ST.lvl_rng {S : ST} {n : Nat} (h : S.inv n) : rng (S.level - S.sup + S.settings 14) 0 21000 := by
  have h1 := ST.sup_rng h
  have h2 := h.2.2.2.2.2.2.1
  have h3 := h.2.2.2.2.1.2.2.2.2.2
  have e : (S.level - S.sup).toInt = S.level.toInt - S.sup.toInt := by
    rw [Int32.toInt_sub]
    unfold rng at h1 h2
    exact Int.bmod_eq_of_le (by omega) (by omega)
  have h4 : rng (S.level - S.sup) 0 20000 := by
    unfold rng at *
    omega
  exact rng_mono (add_rng h4 h3 (by omega) (by omega)) (by omega) (by omega)
theorem ST.newLevel_rng {S : ST} {n : Nat} (h : S.inv n) : rng (S.newLevel S.sup) 0 20000 := by
  have h1 := ST.lvl_rng h
  unfold ST.newLevel
  split
  · rename_i q
    rw [Int32.lt_iff_toInt_lt] at q
    exact ⟨h1.1, Int.le_of_lt q⟩
  · exact ⟨by decide, by decide⟩
theorem ST.water_inv {S : ST} {n : Nat} (h : S.inv n) : S.water.inv n := by
  have h1 : S.water1.inv n := by
    have hl := ST.newLevel_rng h
    obtain ⟨g1, g2, g3, g4, g5, g6, g7, g8⟩ := h
    exact ⟨PT.countM_inv g1, g2, g3, g4, g5, g6, hl, g8⟩
  unfold ST.water
  split
  · obtain ⟨g1, g2, g3, g4, g5, g6, g7, g8⟩ := h1
    exact ⟨g1, g2, g3, g4, g5, hold_rng (by decide), g7, g8⟩
  · exact h1
theorem ST.first_inv {S : ST} {n : Nat} (h : S.inv (n + 10)) : S.first.inv n := ST.watchL_inv (ST.night_inv (ST.water_inv (ST.tick_inv h)))
theorem ST.minute_inv {S : ST} {n : Nat} (h : S.inv (n + 17)) : S.minute.inv n := by
  have h1 := ST.first_inv (n := n + 7) h
  unfold ST.minute
  split
  · exact ST.anew_inv (ST.inv_le h1 (by omega))
  · exact ST.second_inv h1

theorem ST.mins_inv {S : ST} {n : Nat} : ∀ k, S.inv (17 * k + n) → (S.mins k).inv n
  | 0, h => by simpa [ST.mins, it] using h
  | k + 1, h => by
    rw [ST.mins_succ]
    exact ST.minute_inv (ST.mins_inv k (n := n + 17) (by rw [show 17 * k + (n + 17) = 17 * (k + 1) + n by omega]; exact h))
theorem PT.serv_inv {S : PT} (h : S.inv) {p : Int32} (hh : S.has p = true) {x : Int32} (hx : b01 x) : (S.sInService (upd S.inService p.toNatClampNeg x)).inv := by
  obtain ⟨i, hi, e1, e2⟩ := PT.has_n h.1 hh
  rw [e2]
  refine PT.inv_of h rfl (fun j hj => ?_) (fun j hj w => ?_) h.2.2.2
  · obtain ⟨h1, h2, h3, h4, h5⟩ := h.2.1 j hj
    refine ⟨h1, h2, h3, ?_, h5⟩
    show b01 (upd S.inService i x j)
    unfold upd
    split
    · exact hx
    · exact h4
  · have hj2 : j ≠ i := by omega
    unfold PT.get
    split
    · rfl
    · rfl
    · rfl
    · exact upd_off _ _ hj2
    · rfl
    · rfl
    · rfl
    · rfl
theorem ST.change_inv {S : ST} {n : Nat} {p : Int32} (h : S.inv (n + 1)) (hh : S.P.has p = true) {is : Int32} (hi : b01 is) : (S.change p is).inv n := by
  have h1 : (S.chg p is).inv (n + 1) := ST.sP_inv h (PT.serv_inv h.1 hh hi)
  unfold ST.change
  split
  · exact ST.stop_inv h1 p
  · exact ST.inv_le h1 (by omega)
theorem ST.sZ_inv {S : ST} {n : Nat} (h : S.inv n) {x : ZT} (hx : x.inv) : (S.sZ x).inv n := ⟨h.1, hx, h.2.2⟩
theorem inR_nI {w : Int32} {b : Nat} (h : inR w 0 (nI b) = true) (hb : b < 100000) : ∃ n : Nat, n ≤ b ∧ w = nI n ∧ w.toNatClampNeg = n := by
  obtain ⟨h1, h2⟩ := inR_n h (by decide) (by rw [nI_toInt (by omega)]; omega)
  simp only [inR, decide_eq_true_eq] at h
  have h3 := h.2
  rw [h1, nI_ltI (by omega) (by omega)] at h3
  exact ⟨w.toNatClampNeg, by omega, h1, rfl⟩
theorem inR_rng {w a b : Int32} (h : inR w a b = true) : rng w a.toInt b.toInt := by
  simp only [inR, decide_eq_true_eq, Int32.lt_iff_toInt_lt] at h
  exact ⟨by omega, by omega⟩
theorem bnot {b : Bool} (h : ¬ b = true) : b = false := by cases b <;> simp_all
theorem inR_cl {m : Int32} {b : Nat} (h : inR m 1 (nI b) = true) (hb : b < 100000) : m = nI m.toNatClampNeg ∧ m.toNatClampNeg ≤ b := by
  obtain ⟨h1, h2⟩ := inR_n h (by decide) (by rw [nI_toInt (by omega)]; omega)
  simp only [inR, decide_eq_true_eq] at h
  have h3 := h.2
  rw [h1, nI_ltI (by omega) (by omega)] at h3
  exact ⟨h1, by omega⟩
theorem is01 {x : Int32} (h : inR x 0 1 = true) : b01 x := by
  obtain ⟨n, hn, rfl, _⟩ := inR_nI (b := 1) h (by omega)
  match n, hn with
  | 0, _ => exact Or.inl rfl
  | 1, _ => exact Or.inr rfl
theorem bI_is {x : Int32} (h : b01 x) : bI (decide (x = 1)) = x := by
  rcases h with rfl | rfl <;> rfl
def leastS : Nat → Int32 := fun i => match i with
  | 0 => 100
  | 1 => 1
  | 2 => 0
  | 3 => 1
  | 4 => 300
  | 5 => 1
  | 6 => 1
  | 7 => 0
  | 8 => 1
  | 9 => 1
  | 10 => 1
  | 11 => 0
  | 12 => 0
  | 13 => 1
  | 14 => 0
  | 15 => 0
  | 16 => 1
  | 17 => 0
  | 18 => 0
  | _ => 0
def mostS : Nat → Int32 := fun i => match i with
  | 0 => 900
  | 1 => 100
  | 2 => 100
  | 3 => 500
  | 4 => 900
  | 5 => 60
  | 6 => 60
  | 7 => 1000
  | 8 => 60
  | 9 => 300
  | 10 => 200
  | 11 => 10000
  | 12 => 10000
  | 13 => 60
  | 14 => 1000
  | 15 => 1439
  | 16 => 600
  | 17 => 100000
  | 18 => 1440
  | _ => 0
def firstS : Nat → Int32 := fun i => match i with
  | 0 => 400
  | 1 => 20
  | 2 => 20
  | 3 => 100
  | 4 => 500
  | 5 => 3
  | 6 => 5
  | 7 => 60
  | 8 => 4
  | 9 => 60
  | 10 => 20
  | 11 => 500
  | 12 => 2000
  | 13 => 2
  | 14 => 300
  | 15 => 60
  | 16 => 180
  | 17 => 3000
  | 18 => 0
  | _ => 0
def isSet (w v : Int32) : Bool := inR w 0 18 && inR v (leastS w.toNatClampNeg) (mostS w.toNatClampNeg)
theorem wlit18 {w : Int32} (h : inR w 0 18 = true) : w = 0 ∨ w = 1 ∨ w = 2 ∨ w = 3 ∨ w = 4 ∨ w = 5 ∨ w = 6 ∨ w = 7 ∨ w = 8 ∨ w = 9 ∨ w = 10 ∨ w = 11 ∨ w = 12 ∨ w = 13 ∨ w = 14 ∨ w = 15 ∨ w = 16 ∨ w = 17 ∨ w = 18 := by
  obtain ⟨n, hn, rfl, _⟩ := inR_nI (b := 18) h (by omega)
  have key : ∀ n, n ≤ 18 → nI n = 0 ∨ nI n = 1 ∨ nI n = 2 ∨ nI n = 3 ∨ nI n = 4 ∨ nI n = 5 ∨ nI n = 6 ∨ nI n = 7 ∨ nI n = 8 ∨ nI n = 9 ∨ nI n = 10 ∨ nI n = 11 ∨ nI n = 12 ∨ nI n = 13 ∨ nI n = 14 ∨ nI n = 15 ∨ nI n = 16 ∨ nI n = 17 ∨ nI n = 18 := by decide
  exact key n hn
