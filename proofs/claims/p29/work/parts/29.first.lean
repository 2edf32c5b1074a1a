/-! ===== the first states ===== -/
def zf : Nat → Int32 := fun _ => 0
def P0 : PT := (zf, zf, zf, zf, zf, zf, zf, zf, 0, -1)
def Z0 : ZT := (zf, zf, 0, zf, zf, zf, 0)
def N0 : NT := (zf, 0, 0, 0)
def E0 : ET := (zf, zf, zf, zf, 0)
def O0 : OT := (zf, 0, 0, 0, 0, 0, 0)
def S0 : ST := (firstS, P0, Z0, N0, E0, 0, 0, 10000, 0, 0, 0, 0, 0, 0, 0, 0, 0)
def perm0 : Nat → Option Nat := fun i => if i = 3 then some 124 else if i = 2 then some 100 else if i = 1 then some 76 else if i = 0 then some 52 else none
def FP0 : FT := (S0, S0, perm0, 0, O0, S0, S0, S0, S0)
theorem S0_bits : S0.bits := ⟨fun _ _ => Or.inl rfl, fun _ _ => Or.inl rfl, Or.inl rfl⟩
theorem isN_0 {N : Nat} (h : N < 1000) : isN 0 0 N := ⟨rfl, Nat.zero_le _, h⟩
theorem P0_inv : P0.inv := ⟨isN_0 (by decide), fun i hi => absurd hi (Nat.not_lt_zero i), fun i _ _ w hw => by
  match w, hw with
  | 0, _ => rfl
  | 1, _ => rfl
  | 2, _ => rfl
  | 3, _ => rfl
  | 4, _ => rfl
  | 5, _ => rfl
  | 6, _ => rfl
  | 7, _ => rfl, Or.inl rfl⟩
theorem Z0_inv : Z0.inv := ⟨⟨isN_0 (by decide), isN_0 (by decide)⟩, fun _ _ => Or.inl rfl, fun _ _ _ => ⟨rfl, rfl⟩, fun i hi => absurd hi (Nat.not_lt_zero i)⟩
theorem setOk0 : setOk firstS := by
  unfold setOk rng
  decide
theorem S0_inv {n : Nat} (h : n ≤ 2147483000) : S0.inv n := ⟨P0_inv, Z0_inv, isN_0 (by decide), Or.inl rfl, setOk0, ⟨by decide, by decide⟩, ⟨by decide, by decide⟩, ⟨by decide, by show (0 : Int) + (n : Int) ≤ 2147483000; omega, fun _ _ => (by decide : (0 : Int32).toInt ≤ (0 : Int32).toInt)⟩, by decide, by show (0 : Int) + (n : Int) ≤ 2147483000; omega⟩
theorem FP0_hist : FP0.histOk := by
  refine ⟨⟨fun i => if i = 3 then 124 else if i = 2 then 100 else if i = 1 then 76 else 52, fun i hi => ?_, fun i j hi hj => ?_⟩, isN_0 (by decide)⟩
  · match i, hi with
    | 0, _ => exact ⟨rfl, Or.inl rfl⟩
    | 1, _ => exact ⟨rfl, Or.inr (Or.inl rfl)⟩
    | 2, _ => exact ⟨rfl, Or.inr (Or.inr (Or.inl rfl))⟩
    | 3, _ => exact ⟨rfl, Or.inr (Or.inr (Or.inr rfl))⟩
  · dsimp only
    (repeat' split) <;> omega
theorem chr_0 : chr 0 := ⟨rfl, rfl, rfl⟩
