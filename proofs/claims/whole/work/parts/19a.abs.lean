/-! ===== the reference's array out of the class's station ===== -/
theorem upd_at (f : Nat → Int32) (i : Nat) (x : Int32) : upd f i x i = x := by unfold upd; rw [if_pos rfl]
theorem upd_off (f : Nat → Int32) {i j : Nat} (x : Int32) (h : j ≠ i) : upd f i x j = f j := by unfold upd; rw [if_neg h]
def ST.lowc (S : ST) : Nat → Int32 := fun i => match i with
  | 0 => S.time
  | 1 => S.pressure
  | 2 => S.level
  | 3 => S.supply
  | 4 => S.P.vrb
  | 5 => S.dry
  | 6 => S.trips
  | 7 => S.dryMinutes
  | 8 => S.N.flow
  | 9 => S.N.alarms
  | 10 => S.toStart
  | 11 => S.toStop
  | 12 => S.toSleep
  | 13 => S.allSupplied
  | 14 => S.P.size
  | 15 => S.Z.size
  | 16 => S.Z.programmes
  | 17 => S.leak
  | 18 => S.N.size
  | 19 => S.E.kept
  | _ => 0
def PT.get (S : PT) (w p : Nat) : Int32 := match w with
  | 0 => S.kinds p
  | 1 => S.shutoffs p
  | 2 => S.steeps p
  | 3 => S.inService p
  | 4 => S.speeds p
  | 5 => S.minutes p
  | 6 => S.since p
  | _ => S.starts p
def PT.put (S : PT) (w p : Nat) (x : Int32) : PT := match w with
  | 0 => S.sKinds (upd S.kinds p x)
  | 1 => S.sShutoffs (upd S.shutoffs p x)
  | 2 => S.sSteeps (upd S.steeps p x)
  | 3 => S.sInService (upd S.inService p x)
  | 4 => S.sSpeeds (upd S.speeds p x)
  | 5 => S.sMinutes (upd S.minutes p x)
  | 6 => S.sSince (upd S.since p x)
  | _ => S.sStarts (upd S.starts p x)
def PT.row (S : PT) : Nat → Int32 := fun r => S.get (r % 8) (r / 8)
def ZT.row (S : ZT) : Nat → Int32 := fun r => if r % 2 = 0 then S.demands (r / 2) else S.isOpen (r / 2)
def ZT.zput (S : ZT) (w z : Nat) (x : Int32) : ZT := if w = 0 then S.sDemands (upd S.demands z x) else S.sIsOpen (upd S.isOpen z x)
def ZT.prg (S : ZT) : Nat → Int32 := fun r => if r % 3 = 0 then S.pzones (r / 3) else if r % 3 = 1 then S.opening (r / 3) else S.closing (r / 3)
def ZT.pput (S : ZT) (w k : Nat) (x : Int32) : ZT := if w = 0 then S.sPzones (upd S.pzones k x) else if w = 1 then S.sOpening (upd S.opening k x) else S.sClosing (upd S.closing k x)
/-- the events, the latest first: kind, time, pump -/
def ET.evr (S : ET) (w j : Nat) : Int32 := if j < S.all.toNatClampNeg then (if w = 0 then S.kinds ((S.all.toNatClampNeg - 1 - j) % 12) else if w = 1 then S.times ((S.all.toNatClampNeg - 1 - j) % 12) else S.pumps ((S.all.toNatClampNeg - 1 - j) % 12)) else 0
def ET.ev (S : ET) : Nat → Int32 := fun r => S.evr (r % 3) (r / 3)
def blk (l s p z g n e : Nat → Int32) : Nat → Int32 := fun i => if i < 20 then l i else if i < 39 then s (i - 20) else if i < 87 then p (i - 39) else if i < 103 then z (i - 87) else if i < 127 then g (i - 103) else if i < 134 then n (i - 127) else if i < 170 then e (i - 134) else 0
def abs (S : ST) : Nat → Int32 := blk S.lowc S.settings S.P.row S.Z.row S.Z.prg S.N.noted S.E.ev
theorem blk_l (l s p z g n e : Nat → Int32) {i : Nat} (h : 0 ≤ i ∧ i < 20) (x : Int32) : upd (blk l s p z g n e) i x = blk (upd l i x) s p z g n e := by
  funext j
  simp only [upd, blk]
  (repeat' split) <;> first | rfl | omega
theorem blk_s (l s p z g n e : Nat → Int32) {i : Nat} (h : 20 ≤ i ∧ i < 39) (x : Int32) : upd (blk l s p z g n e) i x = blk l (upd s (i - 20) x) p z g n e := by
  funext j
  simp only [upd, blk]
  (repeat' split) <;> first | rfl | omega
theorem blk_p (l s p z g n e : Nat → Int32) {i : Nat} (h : 39 ≤ i ∧ i < 87) (x : Int32) : upd (blk l s p z g n e) i x = blk l s (upd p (i - 39) x) z g n e := by
  funext j
  simp only [upd, blk]
  (repeat' split) <;> first | rfl | omega
theorem blk_z (l s p z g n e : Nat → Int32) {i : Nat} (h : 87 ≤ i ∧ i < 103) (x : Int32) : upd (blk l s p z g n e) i x = blk l s p (upd z (i - 87) x) g n e := by
  funext j
  simp only [upd, blk]
  (repeat' split) <;> first | rfl | omega
theorem blk_g (l s p z g n e : Nat → Int32) {i : Nat} (h : 103 ≤ i ∧ i < 127) (x : Int32) : upd (blk l s p z g n e) i x = blk l s p z (upd g (i - 103) x) n e := by
  funext j
  simp only [upd, blk]
  (repeat' split) <;> first | rfl | omega
theorem blk_n (l s p z g n e : Nat → Int32) {i : Nat} (h : 127 ≤ i ∧ i < 134) (x : Int32) : upd (blk l s p z g n e) i x = blk l s p z g (upd n (i - 127) x) e := by
  funext j
  simp only [upd, blk]
  (repeat' split) <;> first | rfl | omega
theorem upd_row (S : PT) (w p : Nat) (x : Int32) (h : w < 8) : (S.put w p x).row = upd S.row (8 * p + w) x := by
  funext r
  unfold upd PT.row
  by_cases q : r = 8 * p + w
  · subst q
    rw [if_pos rfl, show (8 * p + w) % 8 = w by omega, show (8 * p + w) / 8 = p by omega]
    match w, h with
    | 0, _ => exact upd_at _ _ _
    | 1, _ => exact upd_at _ _ _
    | 2, _ => exact upd_at _ _ _
    | 3, _ => exact upd_at _ _ _
    | 4, _ => exact upd_at _ _ _
    | 5, _ => exact upd_at _ _ _
    | 6, _ => exact upd_at _ _ _
    | 7, _ => exact upd_at _ _ _
  · rw [if_neg q]
    have hw : r % 8 < 8 := Nat.mod_lt _ (by decide)
    have hne : r % 8 = w → r / 8 ≠ p := fun e1 e2 => q (by omega)
    generalize r % 8 = a at *
    generalize r / 8 = b at *
    match w, h, a, hw, hne with
    | 0, _, 0, _, hne => exact upd_off _ _ (hne rfl)
    | 0, _, 1, _, hne => rfl
    | 0, _, 2, _, hne => rfl
    | 0, _, 3, _, hne => rfl
    | 0, _, 4, _, hne => rfl
    | 0, _, 5, _, hne => rfl
    | 0, _, 6, _, hne => rfl
    | 0, _, 7, _, hne => rfl
    | 1, _, 0, _, hne => rfl
    | 1, _, 1, _, hne => exact upd_off _ _ (hne rfl)
    | 1, _, 2, _, hne => rfl
    | 1, _, 3, _, hne => rfl
    | 1, _, 4, _, hne => rfl
    | 1, _, 5, _, hne => rfl
    | 1, _, 6, _, hne => rfl
    | 1, _, 7, _, hne => rfl
    | 2, _, 0, _, hne => rfl
    | 2, _, 1, _, hne => rfl
    | 2, _, 2, _, hne => exact upd_off _ _ (hne rfl)
    | 2, _, 3, _, hne => rfl
    | 2, _, 4, _, hne => rfl
    | 2, _, 5, _, hne => rfl
    | 2, _, 6, _, hne => rfl
    | 2, _, 7, _, hne => rfl
    | 3, _, 0, _, hne => rfl
    | 3, _, 1, _, hne => rfl
    | 3, _, 2, _, hne => rfl
    | 3, _, 3, _, hne => exact upd_off _ _ (hne rfl)
    | 3, _, 4, _, hne => rfl
    | 3, _, 5, _, hne => rfl
    | 3, _, 6, _, hne => rfl
    | 3, _, 7, _, hne => rfl
    | 4, _, 0, _, hne => rfl
    | 4, _, 1, _, hne => rfl
    | 4, _, 2, _, hne => rfl
    | 4, _, 3, _, hne => rfl
    | 4, _, 4, _, hne => exact upd_off _ _ (hne rfl)
    | 4, _, 5, _, hne => rfl
    | 4, _, 6, _, hne => rfl
    | 4, _, 7, _, hne => rfl
    | 5, _, 0, _, hne => rfl
    | 5, _, 1, _, hne => rfl
    | 5, _, 2, _, hne => rfl
    | 5, _, 3, _, hne => rfl
    | 5, _, 4, _, hne => rfl
    | 5, _, 5, _, hne => exact upd_off _ _ (hne rfl)
    | 5, _, 6, _, hne => rfl
    | 5, _, 7, _, hne => rfl
    | 6, _, 0, _, hne => rfl
    | 6, _, 1, _, hne => rfl
    | 6, _, 2, _, hne => rfl
    | 6, _, 3, _, hne => rfl
    | 6, _, 4, _, hne => rfl
    | 6, _, 5, _, hne => rfl
    | 6, _, 6, _, hne => exact upd_off _ _ (hne rfl)
    | 6, _, 7, _, hne => rfl
    | 7, _, 0, _, hne => rfl
    | 7, _, 1, _, hne => rfl
    | 7, _, 2, _, hne => rfl
    | 7, _, 3, _, hne => rfl
    | 7, _, 4, _, hne => rfl
    | 7, _, 5, _, hne => rfl
    | 7, _, 6, _, hne => rfl
    | 7, _, 7, _, hne => exact upd_off _ _ (hne rfl)
theorem upd_zrow (S : ZT) (w z : Nat) (x : Int32) (h : w < 2) : (S.zput w z x).row = upd S.row (2 * z + w) x := by
  funext r
  match w, h with
  | 0, _ =>
    show (if r % 2 = 0 then upd S.demands z x (r / 2) else S.isOpen (r / 2)) = upd (fun r => if r % 2 = 0 then S.demands (r / 2) else S.isOpen (r / 2)) (2 * z + 0) x r
    simp only [upd]
    (repeat' split) <;> first | rfl | omega
  | 1, _ =>
    show (if r % 2 = 0 then S.demands (r / 2) else upd S.isOpen z x (r / 2)) = upd (fun r => if r % 2 = 0 then S.demands (r / 2) else S.isOpen (r / 2)) (2 * z + 1) x r
    simp only [upd]
    (repeat' split) <;> first | rfl | omega
theorem upd_prg (S : ZT) (w k : Nat) (x : Int32) (h : w < 3) : (S.pput w k x).prg = upd S.prg (3 * k + w) x := by
  funext r
  match w, h with
  | 0, _ =>
    show (if r % 3 = 0 then upd S.pzones k x (r / 3) else if r % 3 = 1 then S.opening (r / 3) else S.closing (r / 3)) = upd (fun r => if r % 3 = 0 then S.pzones (r / 3) else if r % 3 = 1 then S.opening (r / 3) else S.closing (r / 3)) (3 * k + 0) x r
    simp only [upd]
    (repeat' split) <;> first | rfl | omega
  | 1, _ =>
    show (if r % 3 = 0 then S.pzones (r / 3) else if r % 3 = 1 then upd S.opening k x (r / 3) else S.closing (r / 3)) = upd (fun r => if r % 3 = 0 then S.pzones (r / 3) else if r % 3 = 1 then S.opening (r / 3) else S.closing (r / 3)) (3 * k + 1) x r
    simp only [upd]
    (repeat' split) <;> first | rfl | omega
  | 2, _ =>
    show (if r % 3 = 0 then S.pzones (r / 3) else if r % 3 = 1 then S.opening (r / 3) else upd S.closing k x (r / 3)) = upd (fun r => if r % 3 = 0 then S.pzones (r / 3) else if r % 3 = 1 then S.opening (r / 3) else S.closing (r / 3)) (3 * k + 2) x r
    simp only [upd]
    (repeat' split) <;> first | rfl | omega
