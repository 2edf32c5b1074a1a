/-! ===== the first states ===== -/
def zf : Nat → Int32 := fun _ => 0
def P0 : PT := (zf, zf, zf, zf, zf, zf, zf, zf, 0, -1)
def Z0 : ZT := (zf, zf, 0, zf, zf, zf, 0)
def N0 : NT := (zf, 0, 0, 0)
def E0 : ET := (zf, zf, zf, zf, 0)
def O0 : OT := (zf, 0, 0, 0, 0, 0, 0)
def S0 : ST := (firstS, P0, Z0, N0, E0, 0, 0, 10000, 0, 0, 0, 0, 0, 0, 0, 0, 0)
def perm0 : Nat → Option Nat := fun i => if i = 3 then some 124 else if i = 2 then some 100 else if i = 1 then some 76 else if i = 0 then some 52 else none
def FP0 : FT := (S0, S0, perm0, 0, O0, S0, S0, S0, S0)
def M0 : MT := (zf, zf, 0, zf, 0, zf, 0, 0, 0, 0, 0, 0, 0)
theorem S0_bits : S0.bits := ⟨fun _ _ => Or.inl rfl, fun _ _ => Or.inl rfl, Or.inl rfl⟩
theorem isN_0 {N : Nat} (h : N < 1000) : isN 0 0 N := ⟨rfl, Nat.zero_le _, h⟩
theorem P0_inv : P0.inv := ⟨isN_0 (by decide), fun i hi => absurd hi (Nat.not_lt_zero i), fun i _ _ w hw => by
  match w, hw with
  | 0, _ => rfl
  | 1, _ => rfl
  | 2, _ => rfl
  | 3, _ => rfl
  | 4, _ => rfl
  | 5, _ => rfl
  | 6, _ => rfl
  | 7, _ => rfl, Or.inl rfl⟩
theorem Z0_inv : Z0.inv := ⟨⟨isN_0 (by decide), isN_0 (by decide)⟩, fun _ _ => Or.inl rfl, fun _ _ _ => ⟨rfl, rfl⟩, fun i hi => absurd hi (Nat.not_lt_zero i)⟩
theorem setOk0 : setOk firstS := by
  unfold setOk rng
  decide
theorem S0_inv {n : Nat} (h : n ≤ 2147483000) : S0.inv n := ⟨P0_inv, Z0_inv, isN_0 (by decide), Or.inl rfl, setOk0, ⟨by decide, by decide⟩, ⟨by decide, by decide⟩, ⟨by decide, by show (0 : Int) + (n : Int) ≤ 2147483000; omega, fun _ _ => (by decide : (0 : Int32).toInt ≤ (0 : Int32).toInt)⟩, by decide, by show (0 : Int) + (n : Int) ≤ 2147483000; omega⟩
theorem FP0_hist : FP0.histOk := by
  refine ⟨⟨fun i => if i = 3 then 124 else if i = 2 then 100 else if i = 1 then 76 else 52, fun i hi => ?_, fun i j hi hj => ?_⟩, isN_0 (by decide)⟩
  · match i, hi with
    | 0, _ => exact ⟨rfl, Or.inl rfl⟩
    | 1, _ => exact ⟨rfl, Or.inr (Or.inl rfl)⟩
    | 2, _ => exact ⟨rfl, Or.inr (Or.inr (Or.inl rfl))⟩
    | 3, _ => exact ⟨rfl, Or.inr (Or.inr (Or.inr rfl))⟩
  · dsimp only
    (repeat' split) <;> omega
theorem chr_0 : chr 0 := ⟨rfl, rfl, rfl⟩
theorem Rel0 {n : Nat} (h : n ≤ 2147483000) : Rel n FP0 M0 := ⟨⟨FP0_hist, ST.inv_okk (S0_inv h), ⟨S0_bits, S0_bits, S0_bits, S0_bits⟩, isN_0 (by decide), fun _ _ => chr_0⟩, S0_inv h, rfl, fun i hi => absurd hi (Nat.not_lt_zero i), rfl, rfl⟩
/-- the reference's array behind its constructor -/
def all0 : Nat → Int32 := fun i => if i = 2 then 10000 else if i = 4 then -1 else if 20 ≤ i ∧ i < 39 then firstS (i - 20) else 0
theorem abs_S0 : abs S0 = all0 := by
  funext i
  unfold abs blk all0
  by_cases d1 : i < 20
  · rw [if_pos d1]
    have key : ∀ i, i < 20 → S0.lowc i = if i = 2 then 10000 else if i = 4 then -1 else 0 := by
      intro i hi
      match i, hi with
      | 0, _ => rfl
      | 1, _ => rfl
      | 2, _ => rfl
      | 3, _ => rfl
      | 4, _ => rfl
      | 5, _ => rfl
      | 6, _ => rfl
      | 7, _ => rfl
      | 8, _ => rfl
      | 9, _ => rfl
      | 10, _ => rfl
      | 11, _ => rfl
      | 12, _ => rfl
      | 13, _ => rfl
      | 14, _ => rfl
      | 15, _ => rfl
      | 16, _ => rfl
      | 17, _ => rfl
      | 18, _ => rfl
      | 19, _ => rfl
      | n + 20, h => exact absurd h (by omega)
    rw [key i d1, if_neg (show ¬ (20 ≤ i ∧ i < 39) by omega)]
  · rw [if_neg d1, if_neg (show ¬ i = 2 by omega), if_neg (show ¬ i = 4 by omega)]
    by_cases d2 : i < 39
    · rw [if_pos d2, if_pos ⟨by omega, d2⟩]
      rfl
    · rw [if_neg d2, if_neg (show ¬ (20 ≤ i ∧ i < 39) from fun z => d2 z.2)]
      by_cases d3 : i < 87
      · rw [if_pos d3]
        have key : ∀ w p, P0.get w p = 0 := by
          intro w p
          unfold PT.get
          split <;> rfl
        exact key _ _
      · rw [if_neg d3]
        by_cases d4 : i < 103
        · rw [if_pos d4]
          show (if (i - 87) % 2 = 0 then (0 : Int32) else 0) = 0
          split <;> rfl
        · rw [if_neg d4]
          by_cases d5 : i < 127
          · rw [if_pos d5]
            show (if (i - 103) % 3 = 0 then (0 : Int32) else if (i - 103) % 3 = 1 then 0 else 0) = 0
            (repeat' split) <;> rfl
          · rw [if_neg d5]
            by_cases d6 : i < 134
            · rw [if_pos d6]; rfl
            · rw [if_neg d6]
              by_cases d7 : i < 170
              · rw [if_pos d7]; rfl
              · rw [if_neg d7]
