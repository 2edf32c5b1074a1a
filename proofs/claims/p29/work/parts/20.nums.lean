/-! ===== numbers, states that are sound ===== -/
theorem upd_at (f : Nat → Int32) (i : Nat) (x : Int32) : upd f i x i = x := by unfold upd; rw [if_pos rfl]
theorem upd_off (f : Nat → Int32) {i j : Nat} (x : Int32) (h : j ≠ i) : upd f i x j = f j := by unfold upd; rw [if_neg h]
def PT.get (S : PT) (w p : Nat) : Int32 := match w with
  | 0 => S.kinds p
  | 1 => S.shutoffs p
  | 2 => S.steeps p
  | 3 => S.inService p
  | 4 => S.speeds p
  | 5 => S.minutes p
  | 6 => S.since p
  | _ => S.starts p
theorem nI_vp {n N : Nat} (h : n < N) (h2 : N < 100000) : vp_in (nI n) N := vp_in_nI h (by omega)

def rng (x : Int32) (a b : Int) : Prop := a ≤ x.toInt ∧ x.toInt ≤ b
theorem rng_nI {x : Int32} {a b : Int} (h : rng x a b) (ha : 0 ≤ a) : ∃ n : Nat, x = nI n ∧ (a ≤ (n : Int) ∧ (n : Int) ≤ b) ∧ n < 2147483648 := by
  have h1 := x.toInt_lt
  refine ⟨x.toInt.toNat, ?_, ?_, ?_⟩
  · apply Int32.toInt_inj.mp
    obtain ⟨h2, h3⟩ := h
    rw [nI_toInt (by omega)]
    omega
  · obtain ⟨h2, h3⟩ := h
    omega
  · omega
def PT.rowIn (S : PT) (i : Nat) : Prop := rng (S.shutoffs i) 0 2000 ∧ rng (S.steeps i) 1 1000 ∧ rng (S.speeds i) 0 1000 ∧ b01 (S.inService i) ∧ (S.speeds i = 0 → S.since i = 0)
def PT.rowOut (S : PT) (i : Nat) : Prop := ∀ w, w < 8 → S.get w i = 0
def PT.vok (S : PT) : Prop := S.vrb = -1 ∨ ∃ v, v < S.n ∧ S.vrb = nI v ∧ 0 < S.speeds v ∧ ¬ S.kinds v = 0
def PT.inv (S : PT) : Prop := S.ok ∧ (∀ i, i < S.n → S.rowIn i) ∧ (∀ i, S.n ≤ i → i < 6 → S.rowOut i) ∧ S.vok
def ZT.inv (S : ZT) : Prop := S.ok ∧ S.bits ∧ (∀ i, S.n ≤ i → i < 8 → S.demands i = 0 ∧ S.isOpen i = 0) ∧ ∀ k, k < S.m → S.has (S.pzones k) = true
theorem PT.has_n {S : PT} {p : Int32} (hs : S.ok) (h : S.has p = true) : ∃ i, i < S.n ∧ p = nI i ∧ p.toNatClampNeg = i := by
  simp only [PT.has, decide_eq_true_eq] at h
  obtain ⟨i, hi, e⟩ := isN_in hs h.1 h.2
  have := hs.2
  exact ⟨i, hi, e, by rw [e]; exact nI_clamp (by omega)⟩
theorem PT.n_has {S : PT} {i : Nat} (hs : S.ok) (h : i < S.n) : S.has (nI i) = true := by
  have hx := ixs hs h
  simp only [PT.has, decide_eq_true_eq]
  exact ⟨hx.2.2.2.2.1, hx.2.2.1⟩
theorem get_eq : (∀ (S : PT) (p : Nat), S.get 0 p = S.kinds p) ∧ (∀ (S : PT) (p : Nat), S.get 1 p = S.shutoffs p) ∧ (∀ (S : PT) (p : Nat), S.get 2 p = S.steeps p) ∧ (∀ (S : PT) (p : Nat), S.get 3 p = S.inService p) ∧ (∀ (S : PT) (p : Nat), S.get 4 p = S.speeds p) ∧ (∀ (S : PT) (p : Nat), S.get 5 p = S.minutes p) ∧ (∀ (S : PT) (p : Nat), S.get 6 p = S.since p) ∧ (∀ (S : PT) (p : Nat), S.get 7 p = S.starts p) := ⟨fun _ _ => rfl, fun _ _ => rfl, fun _ _ => rfl, fun _ _ => rfl, fun _ _ => rfl, fun _ _ => rfl, fun _ _ => rfl, fun _ _ => rfl⟩
