/-- the kinds of the events at the present time -/
def mk1 (S : ST) (k : Nat) (b : Int32) : Int32 := if S.E.latest k = S.time then b else 0
def mask (S : ST) : Int32 := mk1 S 0 1 ||| mk1 S 1 2 ||| mk1 S 2 4 ||| mk1 S 3 8 ||| mk1 S 4 16 ||| mk1 S 5 32 ||| mk1 S 6 64 ||| mk1 S 7 128
abbrev QT : Type := ST × MT × Bool
def sn (q : QT) : Int32 := if q.2.2 = true then q.2.1.seen ||| mask q.1 else q.2.1.seen
def aW (q : QT) : xW := mW ((q.2.1.sAll (abs q.1)).sSeen (sn q))
def aW_wi (q : QT) (id i : Nat) (x : Int32) : Option QT := if id = 1 ∧ i < 134 ∧ i ≠ 19 ∧ sn (wr q.1 i x, q.2.1, q.2.2 || decide (i = 0)) = sn q then some (wr q.1 i x, q.2.1, q.2.2 || decide (i = 0)) else none
def wiOk {σ : Type} (toW : σ → xW) (wi : σ → Nat → Nat → Int32 → Option σ) : Prop := ∀ S id i x S' n f, wi S id i x = some S' → getA (toW S) id = some (0, n, f) → i < n → toW S' = (toW S).set id (.inl (0, n, upd f i x))
def O_asti {σ : Type} (toW : σ → xW) (wi : σ → Nat → Nat → Int32 → Option σ) : Op σ := fun K pc L st S => match st with
  | .int x :: .int i :: .ref id :: r => oA (getA (toW S) id) (fun t n _ => t = 0 ∧ vp_in i n ∧ oK (wi S id i.toNatClampNeg x) (fun S' => K (pc + 1) L r S'))
  | _ => False
theorem O_asti_eq {σ : Type} (K : Kt σ) (pc : Nat) (S : σ) (L : xL) (r : List Value) (toW : σ → xW) (wi : σ → Nat → Nat → Int32 → Option σ) (id : Nat) (i x : Int32) : O_asti toW wi K pc L (.int x :: .int i :: .ref id :: r) S = oA (getA (toW S) id) (fun t n _ => t = 0 ∧ vp_in i n ∧ oK (wi S id i.toNatClampNeg x) (fun S' => K (pc + 1) L r S')) := rfl

theorem ok_asti {σ : Type} {E : En} {own : String} {cc : ByteArray} {maxL d pc : Nat} {toW : σ → xW} (F : Fx E own cc maxL d) {wi : σ → Nat → Nat → Int32 → Option σ} (hp : wiOk toW wi) (hd : decode cc pc = .ok (.iastore, 1)) (hpc : pc + 1 < 100000) : OpOk E toW pc (O_asti toW wi) := by
  intro K L st S ho hk
  unfold O_asti at ho
  split at ho
  · rename_i x i id r
    cases hA : getA (toW S) id with
    | none => rw [hA] at ho; exact ho.elim
    | some a =>
      obtain ⟨t, n, f⟩ := a
      rw [hA] at ho
      obtain ⟨rfl, hi, ho⟩ := ho
      cases hw : wi S id i.toNatClampNeg x with
      | none => rw [hw] at ho; exact ho.elim
      | some S' =>
        rw [hw] at ho
        have hin : i.toNatClampNeg < n := Nat.lt_of_not_le (fun q => hi (Or.inr q))
        refine ok_iast (sa := fun T id' g => @ite _ (T = S ∧ id' = id ∧ g = upd f i.toNatClampNeg x) (Classical.propDecidable _) (some S') none) F ?_ hd hpc K L _ S ?_ hk
        · intro T id' g T' t n' f' h hA'
          dsimp only at h
          split at h
          · rename_i hc
            obtain ⟨rfl, rfl, rfl⟩ := hc
            cases h
            rw [hA] at hA'
            cases hA'
            exact hp _ _ _ _ _ _ _ hw hA hin
          · cases h
        · unfold O_ast
          dsimp only
          rw [hA]
          refine ⟨rfl, hi, ?_⟩
          rw [if_pos ⟨rfl, rfl, rfl⟩]
          exact ho
  · exact ho.elim
theorem aW_wok : wiOk aW aW_wi := by
  intro q id i x q' n f h hA hi
  obtain ⟨S, M, fl⟩ := q
  unfold aW_wi at h
  split at h
  · rename_i hc
    obtain ⟨rfl, h1, h2, h3⟩ := hc
    cases h
    cases hA
    unfold aW
    rw [h3]
    show mW ((M.sAll (abs (wr S i x))).sSeen _) = mW ((M.sAll (upd (abs S) i x)).sSeen _)
    rw [abs_wr S x i h1 h2]
  · cases h
theorem aW_F : (∀ (S : ST) (M : MT) (fl : Bool), getF (aW (S, M, fl)) 7 0 0 = some (.ref 1)) ∧
  (∀ (S : ST) (M : MT) (fl : Bool), getF (aW (S, M, fl)) 7 0 1 = some (.ref 2)) ∧
  (∀ (S : ST) (M : MT) (fl : Bool), getF (aW (S, M, fl)) 7 0 2 = some (.int M.savedMany)) ∧
  (∀ (S : ST) (M : MT) (fl : Bool), getF (aW (S, M, fl)) 7 0 3 = some (.ref 3)) ∧
  (∀ (S : ST) (M : MT) (fl : Bool), getF (aW (S, M, fl)) 7 0 5 = some (.ref 4)) ∧
  (∀ (S : ST) (M : MT) (fl : Bool), getF (aW (S, M, fl)) 7 0 6 = some (.int M.textLong)) ∧
  (∀ (S : ST) (M : MT) (fl : Bool), getF (aW (S, M, fl)) 7 0 7 = some (.int M.place)) ∧
  (∀ (S : ST) (M : MT) (fl : Bool), getF (aW (S, M, fl)) 7 0 8 = some (.int M.order)) ∧
  (∀ (S : ST) (M : MT) (fl : Bool), getF (aW (S, M, fl)) 7 0 9 = some (.int M.number)) ∧
  (∀ (S : ST) (M : MT) (fl : Bool), getF (aW (S, M, fl)) 7 0 10 = some (.int M.faultAt)) ∧
  (∀ (S : ST) (M : MT) (fl : Bool), getF (aW (S, M, fl)) 7 0 11 = some (.int M.faultReason)) ∧
  (∀ (S : ST) (M : MT) (fl : Bool), getF (aW (S, M, fl)) 7 0 12 = some (.int M.done)) := by
  repeat' apply And.intro
  all_goals (intros; rfl)
theorem aW_A : (∀ (S : ST) (M : MT) (fl : Bool), getA (aW (S, M, fl)) 1 = some (0, 170, abs S)) ∧
  (∀ (S : ST) (M : MT) (fl : Bool), getA (aW (S, M, fl)) 2 = some (0, 680, M.saved)) ∧
  (∀ (S : ST) (M : MT) (fl : Bool), getA (aW (S, M, fl)) 3 = some (0, 170, M.aside)) ∧
  (∀ (S : ST) (M : MT) (fl : Bool), getA (aW (S, M, fl)) 4 = some (0, 60, M.text)) := by
  repeat' apply And.intro
  all_goals (intros; rfl)
def aW_p7_2 (q : QT) (id : Nat) (x : Int32) : Option QT := if id = 0 then some (q.1, q.2.1.sSavedMany x, q.2.2) else none
theorem aW_p7_2_ok : putOk aW 7 2 aW_p7_2 := by
  intro S id x S' h
  obtain ⟨S, M, fl⟩ := S
  unfold aW_p7_2 at h
  by_cases h1 : id = 0
  · subst h1
    rw [if_pos rfl] at h
    cases h
    cases fl <;> exact ⟨_, rfl, Nat.le_of_ble_eq_true rfl, rfl⟩
  · rw [if_neg h1] at h
    cases h
def aW_p7_6 (q : QT) (id : Nat) (x : Int32) : Option QT := if id = 0 then some (q.1, q.2.1.sTextLong x, q.2.2) else none
theorem aW_p7_6_ok : putOk aW 7 6 aW_p7_6 := by
  intro S id x S' h
  obtain ⟨S, M, fl⟩ := S
  unfold aW_p7_6 at h
  by_cases h1 : id = 0
  · subst h1
    rw [if_pos rfl] at h
    cases h
    cases fl <;> exact ⟨_, rfl, Nat.le_of_ble_eq_true rfl, rfl⟩
  · rw [if_neg h1] at h
    cases h
def aW_p7_7 (q : QT) (id : Nat) (x : Int32) : Option QT := if id = 0 then some (q.1, q.2.1.sPlace x, q.2.2) else none
theorem aW_p7_7_ok : putOk aW 7 7 aW_p7_7 := by
  intro S id x S' h
  obtain ⟨S, M, fl⟩ := S
  unfold aW_p7_7 at h
  by_cases h1 : id = 0
  · subst h1
    rw [if_pos rfl] at h
    cases h
    cases fl <;> exact ⟨_, rfl, Nat.le_of_ble_eq_true rfl, rfl⟩
  · rw [if_neg h1] at h
    cases h
def aW_p7_8 (q : QT) (id : Nat) (x : Int32) : Option QT := if id = 0 then some (q.1, q.2.1.sOrder x, q.2.2) else none
theorem aW_p7_8_ok : putOk aW 7 8 aW_p7_8 := by
  intro S id x S' h
  obtain ⟨S, M, fl⟩ := S
  unfold aW_p7_8 at h
  by_cases h1 : id = 0
  · subst h1
    rw [if_pos rfl] at h
    cases h
    cases fl <;> exact ⟨_, rfl, Nat.le_of_ble_eq_true rfl, rfl⟩
  · rw [if_neg h1] at h
    cases h
def aW_p7_9 (q : QT) (id : Nat) (x : Int32) : Option QT := if id = 0 then some (q.1, q.2.1.sNumber x, q.2.2) else none
theorem aW_p7_9_ok : putOk aW 7 9 aW_p7_9 := by
  intro S id x S' h
  obtain ⟨S, M, fl⟩ := S
  unfold aW_p7_9 at h
  by_cases h1 : id = 0
  · subst h1
    rw [if_pos rfl] at h
    cases h
    cases fl <;> exact ⟨_, rfl, Nat.le_of_ble_eq_true rfl, rfl⟩
  · rw [if_neg h1] at h
    cases h
def aW_p7_10 (q : QT) (id : Nat) (x : Int32) : Option QT := if id = 0 then some (q.1, q.2.1.sFaultAt x, q.2.2) else none
theorem aW_p7_10_ok : putOk aW 7 10 aW_p7_10 := by
  intro S id x S' h
  obtain ⟨S, M, fl⟩ := S
  unfold aW_p7_10 at h
  by_cases h1 : id = 0
  · subst h1
    rw [if_pos rfl] at h
    cases h
    cases fl <;> exact ⟨_, rfl, Nat.le_of_ble_eq_true rfl, rfl⟩
  · rw [if_neg h1] at h
    cases h
def aW_p7_11 (q : QT) (id : Nat) (x : Int32) : Option QT := if id = 0 then some (q.1, q.2.1.sFaultReason x, q.2.2) else none
theorem aW_p7_11_ok : putOk aW 7 11 aW_p7_11 := by
  intro S id x S' h
  obtain ⟨S, M, fl⟩ := S
  unfold aW_p7_11 at h
  by_cases h1 : id = 0
  · subst h1
    rw [if_pos rfl] at h
    cases h
    cases fl <;> exact ⟨_, rfl, Nat.le_of_ble_eq_true rfl, rfl⟩
  · rw [if_neg h1] at h
    cases h
def aW_p7_12 (q : QT) (id : Nat) (x : Int32) : Option QT := if id = 0 then some (q.1, q.2.1.sDone x, q.2.2) else none
theorem aW_p7_12_ok : putOk aW 7 12 aW_p7_12 := by
  intro S id x S' h
  obtain ⟨S, M, fl⟩ := S
  unfold aW_p7_12 at h
  by_cases h1 : id = 0
  · subst h1
    rw [if_pos rfl] at h
    cases h
    cases fl <;> exact ⟨_, rfl, Nat.le_of_ble_eq_true rfl, rfl⟩
  · rw [if_neg h1] at h
    cases h
theorem aW_P : (∀ (S : ST) (M : MT) (fl : Bool) (x : Int32), aW_p7_2 (S, M, fl) 0 x = some (S, M.sSavedMany x, fl)) ∧
  (∀ (S : ST) (M : MT) (fl : Bool) (x : Int32), aW_p7_6 (S, M, fl) 0 x = some (S, M.sTextLong x, fl)) ∧
  (∀ (S : ST) (M : MT) (fl : Bool) (x : Int32), aW_p7_7 (S, M, fl) 0 x = some (S, M.sPlace x, fl)) ∧
  (∀ (S : ST) (M : MT) (fl : Bool) (x : Int32), aW_p7_8 (S, M, fl) 0 x = some (S, M.sOrder x, fl)) ∧
  (∀ (S : ST) (M : MT) (fl : Bool) (x : Int32), aW_p7_9 (S, M, fl) 0 x = some (S, M.sNumber x, fl)) ∧
  (∀ (S : ST) (M : MT) (fl : Bool) (x : Int32), aW_p7_10 (S, M, fl) 0 x = some (S, M.sFaultAt x, fl)) ∧
  (∀ (S : ST) (M : MT) (fl : Bool) (x : Int32), aW_p7_11 (S, M, fl) 0 x = some (S, M.sFaultReason x, fl)) ∧
  (∀ (S : ST) (M : MT) (fl : Bool) (x : Int32), aW_p7_12 (S, M, fl) 0 x = some (S, M.sDone x, fl)) := by
  repeat' apply And.intro
  all_goals (intros; rfl)
theorem rcv_aW : rcvOk aW RX7 := fun P => ⟨7, _, _, _, rfl, rfl⟩
theorem abs_eq : (∀ S : ST, abs S 0 = S.time) ∧
  (∀ S : ST, abs S 1 = S.pressure) ∧
  (∀ S : ST, abs S 2 = S.level) ∧
  (∀ S : ST, abs S 3 = S.supply) ∧
  (∀ S : ST, abs S 4 = S.P.vrb) ∧
  (∀ S : ST, abs S 5 = S.dry) ∧
  (∀ S : ST, abs S 6 = S.trips) ∧
  (∀ S : ST, abs S 7 = S.dryMinutes) ∧
  (∀ S : ST, abs S 8 = S.N.flow) ∧
  (∀ S : ST, abs S 9 = S.N.alarms) ∧
  (∀ S : ST, abs S 10 = S.toStart) ∧
  (∀ S : ST, abs S 11 = S.toStop) ∧
  (∀ S : ST, abs S 12 = S.toSleep) ∧
  (∀ S : ST, abs S 13 = S.allSupplied) ∧
  (∀ S : ST, abs S 14 = S.P.size) ∧
  (∀ S : ST, abs S 15 = S.Z.size) ∧
  (∀ S : ST, abs S 16 = S.Z.programmes) ∧
  (∀ S : ST, abs S 17 = S.leak) ∧
  (∀ S : ST, abs S 18 = S.N.size) ∧ (∀ S : ST, abs S 19 = S.E.kept) := by
  repeat' apply And.intro
  all_goals (intros; rfl)
theorem sn_wr (S : ST) (M : MT) (fl : Bool) (i : Nat) (x : Int32) (h0 : i ≠ 0) (h : i < 134) (h2 : i ≠ 19) : aW_wi (S, M, fl) 1 i x = some (wr S i x, M, fl) := by
  have e : mask (wr S i x) = mask S := by
    unfold wr
    split
    · rename_i h3
      match i, h3, h0 with
      | 1, _, _ => rfl
      | 2, _, _ => rfl
      | 3, _, _ => rfl
      | 4, _, _ => rfl
      | 5, _, _ => rfl
      | 6, _, _ => rfl
      | 7, _, _ => rfl
      | 8, _, _ => rfl
      | 9, _, _ => rfl
      | 10, _, _ => rfl
      | 11, _, _ => rfl
      | 12, _, _ => rfl
      | 13, _, _ => rfl
      | 14, _, _ => rfl
      | 15, _, _ => rfl
      | 16, _, _ => rfl
      | 17, _, _ => rfl
      | 18, _, _ => rfl
      | 0, _, h => exact absurd rfl h
      | n + 19, h, _ => exact absurd h (by omega)
    · repeat' split
      all_goals rfl
  have e0 : decide (i = 0) = false := decide_eq_false h0
  unfold aW_wi
  dsimp only
  rw [e0, Bool.or_false, if_pos]
  refine ⟨rfl, h, h2, ?_⟩
  unfold sn
  dsimp only
  rw [e]
theorem aW_w : (∀ (S : ST) (M : MT) (fl : Bool) (x : Int32), aW_wi (S, M, fl) 1 1 x = some (S.sPressure x, M, fl)) ∧
  (∀ (S : ST) (M : MT) (fl : Bool) (x : Int32), aW_wi (S, M, fl) 1 2 x = some (S.sLevel x, M, fl)) ∧
  (∀ (S : ST) (M : MT) (fl : Bool) (x : Int32), aW_wi (S, M, fl) 1 3 x = some (S.sSupply x, M, fl)) ∧
  (∀ (S : ST) (M : MT) (fl : Bool) (x : Int32), aW_wi (S, M, fl) 1 4 x = some (S.sP (S.P.sVrb x), M, fl)) ∧
  (∀ (S : ST) (M : MT) (fl : Bool) (x : Int32), aW_wi (S, M, fl) 1 5 x = some (S.sDry x, M, fl)) ∧
  (∀ (S : ST) (M : MT) (fl : Bool) (x : Int32), aW_wi (S, M, fl) 1 6 x = some (S.sTrips x, M, fl)) ∧
  (∀ (S : ST) (M : MT) (fl : Bool) (x : Int32), aW_wi (S, M, fl) 1 7 x = some (S.sDryMinutes x, M, fl)) ∧
  (∀ (S : ST) (M : MT) (fl : Bool) (x : Int32), aW_wi (S, M, fl) 1 8 x = some (S.sN (S.N.sFlow x), M, fl)) ∧
  (∀ (S : ST) (M : MT) (fl : Bool) (x : Int32), aW_wi (S, M, fl) 1 9 x = some (S.sN (S.N.sAlarms x), M, fl)) ∧
  (∀ (S : ST) (M : MT) (fl : Bool) (x : Int32), aW_wi (S, M, fl) 1 10 x = some (S.sToStart x, M, fl)) ∧
  (∀ (S : ST) (M : MT) (fl : Bool) (x : Int32), aW_wi (S, M, fl) 1 11 x = some (S.sToStop x, M, fl)) ∧
  (∀ (S : ST) (M : MT) (fl : Bool) (x : Int32), aW_wi (S, M, fl) 1 12 x = some (S.sToSleep x, M, fl)) ∧
  (∀ (S : ST) (M : MT) (fl : Bool) (x : Int32), aW_wi (S, M, fl) 1 13 x = some (S.sAllSupplied x, M, fl)) ∧
  (∀ (S : ST) (M : MT) (fl : Bool) (x : Int32), aW_wi (S, M, fl) 1 14 x = some (S.sP (S.P.sSize x), M, fl)) ∧
  (∀ (S : ST) (M : MT) (fl : Bool) (x : Int32), aW_wi (S, M, fl) 1 15 x = some (S.sZ (S.Z.sSize x), M, fl)) ∧
  (∀ (S : ST) (M : MT) (fl : Bool) (x : Int32), aW_wi (S, M, fl) 1 16 x = some (S.sZ (S.Z.sProgrammes x), M, fl)) ∧
  (∀ (S : ST) (M : MT) (fl : Bool) (x : Int32), aW_wi (S, M, fl) 1 17 x = some (S.sLeak x, M, fl)) ∧
  (∀ (S : ST) (M : MT) (fl : Bool) (x : Int32), aW_wi (S, M, fl) 1 18 x = some (S.sN (S.N.sSize x), M, fl)) := by
  repeat' apply And.intro
  all_goals (intros; exact sn_wr _ _ _ _ _ (by decide) (by decide) (by decide))
theorem v170 : vp_in 0 170 ∧ vp_in 1 170 ∧ vp_in 2 170 ∧ vp_in 3 170 ∧ vp_in 4 170 ∧ vp_in 5 170 ∧ vp_in 6 170 ∧ vp_in 7 170 ∧ vp_in 8 170 ∧ vp_in 9 170 ∧ vp_in 10 170 ∧ vp_in 11 170 ∧ vp_in 12 170 ∧ vp_in 13 170 ∧ vp_in 14 170 ∧ vp_in 15 170 ∧ vp_in 16 170 ∧ vp_in 17 170 ∧ vp_in 18 170 ∧ vp_in 19 170 := by unfold vp_in; decide +kernel
theorem nI_vp {n N : Nat} (h : n < N) (h2 : N < 100000) : vp_in (nI n) N := vp_in_nI h (by omega)
