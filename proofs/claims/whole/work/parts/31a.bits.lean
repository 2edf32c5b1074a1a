/-! ===== a bit of what was seen ===== -/
def tb (x s : Int32) : Int32 := (x >>> (s &&& 31)) &&& 1
theorem tb_bv {a b : Int32} (h : a.toBitVec = b.toBitVec) : a = b := Int32.toBitVec_inj.mp h
theorem tb_or (x y s : Int32) : tb (x ||| y) s = tb x s ||| tb y s := by
  apply tb_bv
  unfold tb
  show ((x.toBitVec ||| y.toBitVec).sshiftRight' _) &&& _ = (x.toBitVec.sshiftRight' _ &&& _) ||| (y.toBitVec.sshiftRight' _ &&& _)
  generalize ((s &&& 31).toBitVec.smod 32) = n
  apply BitVec.eq_of_getLsbD_eq
  intro i hi
  simp only [BitVec.sshiftRight', BitVec.getLsbD_and, BitVec.getLsbD_or, BitVec.getLsbD_sshiftRight, BitVec.msb_or]
  generalize x.toBitVec.getLsbD (n.toNat + i) = p
  generalize y.toBitVec.getLsbD (n.toNat + i) = q
  generalize x.toBitVec.msb = r
  generalize y.toBitVec.msb = t
  generalize BitVec.getLsbD _ i = u
  generalize decide (32 ≤ i) = v
  by_cases c : n.toNat + i < 32
  · simp only [c, if_true]
    cases p <;> cases q <;> cases u <;> cases v <;> rfl
  · simp only [c, if_false]
    cases r <;> cases t <;> cases u <;> cases v <;> rfl
theorem tb_0 (s : Int32) (h : vp_in s 8) : tb 0 s = 0 := by
  obtain ⟨a, ha, rfl⟩ := vp_in_of h (by omega)
  have key : ∀ a, a < 8 → tb 0 (nI a) = 0 := by
    unfold tb
    decide +kernel
  exact key a ha
theorem tb_one : ∀ a, a < 8 → tb 1 (nI a) = (if a = 0 then 1 else 0) ∧ tb 2 (nI a) = (if a = 1 then 1 else 0) ∧ tb 4 (nI a) = (if a = 2 then 1 else 0) ∧ tb 8 (nI a) = (if a = 3 then 1 else 0) ∧ tb 16 (nI a) = (if a = 4 then 1 else 0) ∧ tb 32 (nI a) = (if a = 5 then 1 else 0) ∧ tb 64 (nI a) = (if a = 6 then 1 else 0) ∧ tb 128 (nI a) = (if a = 7 then 1 else 0) := by
  unfold tb
  decide +kernel
theorem tb_mk (S : ST) (j a : Nat) (b : Int32) (ha : a < 8) (hb : tb b (nI a) = if a = j then 1 else 0) : tb (mk1 S j b) (nI a) = if a = j then bI (decide (S.E.latest a = S.time)) else 0 := by
  unfold mk1
  by_cases c : S.E.latest j = S.time
  · rw [if_pos c, hb]
    by_cases d : a = j
    · rw [if_pos d, if_pos d, d, decide_eq_true c]
      rfl
    · rw [if_neg d, if_neg d]
  · rw [if_neg c, tb_0 _ (vp_in_nI (by omega) (by omega))]
    by_cases d : a = j
    · rw [if_pos d, d, decide_eq_false c]
      rfl
    · rw [if_neg d]
theorem tb_mask (S : ST) {k : Int32} (hk : vp_in k 8) : tb (mask S) k = bI (decide (S.E.latest k.toNatClampNeg = S.time)) := by
  obtain ⟨a, ha, rfl⟩ := vp_in_of hk (by omega)
  rw [nI_clamp (by omega)]
  obtain ⟨b0, b1, b2, b3, b4, b5, b6, b7⟩ := tb_one a ha
  unfold mask
  rw [tb_or, tb_or, tb_or, tb_or, tb_or, tb_or, tb_or, tb_mk S 0 a 1 ha b0, tb_mk S 1 a 2 ha b1, tb_mk S 2 a 4 ha b2, tb_mk S 3 a 8 ha b3, tb_mk S 4 a 16 ha b4, tb_mk S 5 a 32 ha b5, tb_mk S 6 a 64 ha b6, tb_mk S 7 a 128 ha b7]
  generalize bI (decide (S.E.latest a = S.time)) = x
  match a, ha with
  | 0, _ => simp
  | 1, _ => simp
  | 2, _ => simp
  | 3, _ => simp
  | 4, _ => simp
  | 5, _ => simp
  | 6, _ => simp
  | 7, _ => simp
