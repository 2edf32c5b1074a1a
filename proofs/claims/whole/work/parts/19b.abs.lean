def wrl (S : ST) (i : Nat) (x : Int32) : ST := match i with
  | 0 => S.sTime x
  | 1 => S.sPressure x
  | 2 => S.sLevel x
  | 3 => S.sSupply x
  | 4 => S.sP (S.P.sVrb x)
  | 5 => S.sDry x
  | 6 => S.sTrips x
  | 7 => S.sDryMinutes x
  | 8 => S.sN (S.N.sFlow x)
  | 9 => S.sN (S.N.sAlarms x)
  | 10 => S.sToStart x
  | 11 => S.sToStop x
  | 12 => S.sToSleep x
  | 13 => S.sAllSupplied x
  | 14 => S.sP (S.P.sSize x)
  | 15 => S.sZ (S.Z.sSize x)
  | 16 => S.sZ (S.Z.sProgrammes x)
  | 17 => S.sLeak x
  | 18 => S.sN (S.N.sSize x)
  | _ => S
theorem low_0 (S : ST) (x : Int32) : (S.sTime x).lowc = upd S.lowc 0 x := by
  funext i
  match i with
  | 0 => rfl
  | 1 => rfl
  | 2 => rfl
  | 3 => rfl
  | 4 => rfl
  | 5 => rfl
  | 6 => rfl
  | 7 => rfl
  | 8 => rfl
  | 9 => rfl
  | 10 => rfl
  | 11 => rfl
  | 12 => rfl
  | 13 => rfl
  | 14 => rfl
  | 15 => rfl
  | 16 => rfl
  | 17 => rfl
  | 18 => rfl
  | 19 => rfl
  | m + 20 => simp [ST.lowc, upd]
theorem low_1 (S : ST) (x : Int32) : (S.sPressure x).lowc = upd S.lowc 1 x := by
  funext i
  match i with
  | 0 => rfl
  | 1 => rfl
  | 2 => rfl
  | 3 => rfl
  | 4 => rfl
  | 5 => rfl
  | 6 => rfl
  | 7 => rfl
  | 8 => rfl
  | 9 => rfl
  | 10 => rfl
  | 11 => rfl
  | 12 => rfl
  | 13 => rfl
  | 14 => rfl
  | 15 => rfl
  | 16 => rfl
  | 17 => rfl
  | 18 => rfl
  | 19 => rfl
  | m + 20 => simp [ST.lowc, upd]
theorem low_2 (S : ST) (x : Int32) : (S.sLevel x).lowc = upd S.lowc 2 x := by
  funext i
  match i with
  | 0 => rfl
  | 1 => rfl
  | 2 => rfl
  | 3 => rfl
  | 4 => rfl
  | 5 => rfl
  | 6 => rfl
  | 7 => rfl
  | 8 => rfl
  | 9 => rfl
  | 10 => rfl
  | 11 => rfl
  | 12 => rfl
  | 13 => rfl
  | 14 => rfl
  | 15 => rfl
  | 16 => rfl
  | 17 => rfl
  | 18 => rfl
  | 19 => rfl
  | m + 20 => simp [ST.lowc, upd]
theorem low_3 (S : ST) (x : Int32) : (S.sSupply x).lowc = upd S.lowc 3 x := by
  funext i
  match i with
  | 0 => rfl
  | 1 => rfl
  | 2 => rfl
  | 3 => rfl
  | 4 => rfl
  | 5 => rfl
  | 6 => rfl
  | 7 => rfl
  | 8 => rfl
  | 9 => rfl
  | 10 => rfl
  | 11 => rfl
  | 12 => rfl
  | 13 => rfl
  | 14 => rfl
  | 15 => rfl
  | 16 => rfl
  | 17 => rfl
  | 18 => rfl
  | 19 => rfl
  | m + 20 => simp [ST.lowc, upd]
theorem low_4 (S : ST) (x : Int32) : (S.sP (S.P.sVrb x)).lowc = upd S.lowc 4 x := by
  funext i
  match i with
  | 0 => rfl
  | 1 => rfl
  | 2 => rfl
  | 3 => rfl
  | 4 => rfl
  | 5 => rfl
  | 6 => rfl
  | 7 => rfl
  | 8 => rfl
  | 9 => rfl
  | 10 => rfl
  | 11 => rfl
  | 12 => rfl
  | 13 => rfl
  | 14 => rfl
  | 15 => rfl
  | 16 => rfl
  | 17 => rfl
  | 18 => rfl
  | 19 => rfl
  | m + 20 => simp [ST.lowc, upd]
theorem low_5 (S : ST) (x : Int32) : (S.sDry x).lowc = upd S.lowc 5 x := by
  funext i
  match i with
  | 0 => rfl
  | 1 => rfl
  | 2 => rfl
  | 3 => rfl
  | 4 => rfl
  | 5 => rfl
  | 6 => rfl
  | 7 => rfl
  | 8 => rfl
  | 9 => rfl
  | 10 => rfl
  | 11 => rfl
  | 12 => rfl
  | 13 => rfl
  | 14 => rfl
  | 15 => rfl
  | 16 => rfl
  | 17 => rfl
  | 18 => rfl
  | 19 => rfl
  | m + 20 => simp [ST.lowc, upd]
theorem low_6 (S : ST) (x : Int32) : (S.sTrips x).lowc = upd S.lowc 6 x := by
  funext i
  match i with
  | 0 => rfl
  | 1 => rfl
  | 2 => rfl
  | 3 => rfl
  | 4 => rfl
  | 5 => rfl
  | 6 => rfl
  | 7 => rfl
  | 8 => rfl
  | 9 => rfl
  | 10 => rfl
  | 11 => rfl
  | 12 => rfl
  | 13 => rfl
  | 14 => rfl
  | 15 => rfl
  | 16 => rfl
  | 17 => rfl
  | 18 => rfl
  | 19 => rfl
  | m + 20 => simp [ST.lowc, upd]
theorem low_7 (S : ST) (x : Int32) : (S.sDryMinutes x).lowc = upd S.lowc 7 x := by
  funext i
  match i with
  | 0 => rfl
  | 1 => rfl
  | 2 => rfl
  | 3 => rfl
  | 4 => rfl
  | 5 => rfl
  | 6 => rfl
  | 7 => rfl
  | 8 => rfl
  | 9 => rfl
  | 10 => rfl
  | 11 => rfl
  | 12 => rfl
  | 13 => rfl
  | 14 => rfl
  | 15 => rfl
  | 16 => rfl
  | 17 => rfl
  | 18 => rfl
  | 19 => rfl
  | m + 20 => simp [ST.lowc, upd]
theorem low_8 (S : ST) (x : Int32) : (S.sN (S.N.sFlow x)).lowc = upd S.lowc 8 x := by
  funext i
  match i with
  | 0 => rfl
  | 1 => rfl
  | 2 => rfl
  | 3 => rfl
  | 4 => rfl
  | 5 => rfl
  | 6 => rfl
  | 7 => rfl
  | 8 => rfl
  | 9 => rfl
  | 10 => rfl
  | 11 => rfl
  | 12 => rfl
  | 13 => rfl
  | 14 => rfl
  | 15 => rfl
  | 16 => rfl
  | 17 => rfl
  | 18 => rfl
  | 19 => rfl
  | m + 20 => simp [ST.lowc, upd]
theorem low_9 (S : ST) (x : Int32) : (S.sN (S.N.sAlarms x)).lowc = upd S.lowc 9 x := by
  funext i
  match i with
  | 0 => rfl
  | 1 => rfl
  | 2 => rfl
  | 3 => rfl
  | 4 => rfl
  | 5 => rfl
  | 6 => rfl
  | 7 => rfl
  | 8 => rfl
  | 9 => rfl
  | 10 => rfl
  | 11 => rfl
  | 12 => rfl
  | 13 => rfl
  | 14 => rfl
  | 15 => rfl
  | 16 => rfl
  | 17 => rfl
  | 18 => rfl
  | 19 => rfl
  | m + 20 => simp [ST.lowc, upd]
theorem low_10 (S : ST) (x : Int32) : (S.sToStart x).lowc = upd S.lowc 10 x := by
  funext i
  match i with
  | 0 => rfl
  | 1 => rfl
  | 2 => rfl
  | 3 => rfl
  | 4 => rfl
  | 5 => rfl
  | 6 => rfl
  | 7 => rfl
  | 8 => rfl
  | 9 => rfl
  | 10 => rfl
  | 11 => rfl
  | 12 => rfl
  | 13 => rfl
  | 14 => rfl
  | 15 => rfl
  | 16 => rfl
  | 17 => rfl
  | 18 => rfl
  | 19 => rfl
  | m + 20 => simp [ST.lowc, upd]
theorem low_11 (S : ST) (x : Int32) : (S.sToStop x).lowc = upd S.lowc 11 x := by
  funext i
  match i with
  | 0 => rfl
  | 1 => rfl
  | 2 => rfl
  | 3 => rfl
  | 4 => rfl
  | 5 => rfl
  | 6 => rfl
  | 7 => rfl
  | 8 => rfl
  | 9 => rfl
  | 10 => rfl
  | 11 => rfl
  | 12 => rfl
  | 13 => rfl
  | 14 => rfl
  | 15 => rfl
  | 16 => rfl
  | 17 => rfl
  | 18 => rfl
  | 19 => rfl
  | m + 20 => simp [ST.lowc, upd]
theorem low_12 (S : ST) (x : Int32) : (S.sToSleep x).lowc = upd S.lowc 12 x := by
  funext i
  match i with
  | 0 => rfl
  | 1 => rfl
  | 2 => rfl
  | 3 => rfl
  | 4 => rfl
  | 5 => rfl
  | 6 => rfl
  | 7 => rfl
  | 8 => rfl
  | 9 => rfl
  | 10 => rfl
  | 11 => rfl
  | 12 => rfl
  | 13 => rfl
  | 14 => rfl
  | 15 => rfl
  | 16 => rfl
  | 17 => rfl
  | 18 => rfl
  | 19 => rfl
  | m + 20 => simp [ST.lowc, upd]
theorem low_13 (S : ST) (x : Int32) : (S.sAllSupplied x).lowc = upd S.lowc 13 x := by
  funext i
  match i with
  | 0 => rfl
  | 1 => rfl
  | 2 => rfl
  | 3 => rfl
  | 4 => rfl
  | 5 => rfl
  | 6 => rfl
  | 7 => rfl
  | 8 => rfl
  | 9 => rfl
  | 10 => rfl
  | 11 => rfl
  | 12 => rfl
  | 13 => rfl
  | 14 => rfl
  | 15 => rfl
  | 16 => rfl
  | 17 => rfl
  | 18 => rfl
  | 19 => rfl
  | m + 20 => simp [ST.lowc, upd]
theorem low_14 (S : ST) (x : Int32) : (S.sP (S.P.sSize x)).lowc = upd S.lowc 14 x := by
  funext i
  match i with
  | 0 => rfl
  | 1 => rfl
  | 2 => rfl
  | 3 => rfl
  | 4 => rfl
  | 5 => rfl
  | 6 => rfl
  | 7 => rfl
  | 8 => rfl
  | 9 => rfl
  | 10 => rfl
  | 11 => rfl
  | 12 => rfl
  | 13 => rfl
  | 14 => rfl
  | 15 => rfl
  | 16 => rfl
  | 17 => rfl
  | 18 => rfl
  | 19 => rfl
  | m + 20 => simp [ST.lowc, upd]
theorem low_15 (S : ST) (x : Int32) : (S.sZ (S.Z.sSize x)).lowc = upd S.lowc 15 x := by
  funext i
  match i with
  | 0 => rfl
  | 1 => rfl
  | 2 => rfl
  | 3 => rfl
  | 4 => rfl
  | 5 => rfl
  | 6 => rfl
  | 7 => rfl
  | 8 => rfl
  | 9 => rfl
  | 10 => rfl
  | 11 => rfl
  | 12 => rfl
  | 13 => rfl
  | 14 => rfl
  | 15 => rfl
  | 16 => rfl
  | 17 => rfl
  | 18 => rfl
  | 19 => rfl
  | m + 20 => simp [ST.lowc, upd]
theorem low_16 (S : ST) (x : Int32) : (S.sZ (S.Z.sProgrammes x)).lowc = upd S.lowc 16 x := by
  funext i
  match i with
  | 0 => rfl
  | 1 => rfl
  | 2 => rfl
  | 3 => rfl
  | 4 => rfl
  | 5 => rfl
  | 6 => rfl
  | 7 => rfl
  | 8 => rfl
  | 9 => rfl
  | 10 => rfl
  | 11 => rfl
  | 12 => rfl
  | 13 => rfl
  | 14 => rfl
  | 15 => rfl
  | 16 => rfl
  | 17 => rfl
  | 18 => rfl
  | 19 => rfl
  | m + 20 => simp [ST.lowc, upd]
theorem low_17 (S : ST) (x : Int32) : (S.sLeak x).lowc = upd S.lowc 17 x := by
  funext i
  match i with
  | 0 => rfl
  | 1 => rfl
  | 2 => rfl
  | 3 => rfl
  | 4 => rfl
  | 5 => rfl
  | 6 => rfl
  | 7 => rfl
  | 8 => rfl
  | 9 => rfl
  | 10 => rfl
  | 11 => rfl
  | 12 => rfl
  | 13 => rfl
  | 14 => rfl
  | 15 => rfl
  | 16 => rfl
  | 17 => rfl
  | 18 => rfl
  | 19 => rfl
  | m + 20 => simp [ST.lowc, upd]
theorem low_18 (S : ST) (x : Int32) : (S.sN (S.N.sSize x)).lowc = upd S.lowc 18 x := by
  funext i
  match i with
  | 0 => rfl
  | 1 => rfl
  | 2 => rfl
  | 3 => rfl
  | 4 => rfl
  | 5 => rfl
  | 6 => rfl
  | 7 => rfl
  | 8 => rfl
  | 9 => rfl
  | 10 => rfl
  | 11 => rfl
  | 12 => rfl
  | 13 => rfl
  | 14 => rfl
  | 15 => rfl
  | 16 => rfl
  | 17 => rfl
  | 18 => rfl
  | 19 => rfl
  | m + 20 => simp [ST.lowc, upd]
def wr (S : ST) (i : Nat) (x : Int32) : ST := if i < 19 then wrl S i x else if i < 39 then S.sSettings (upd S.settings (i - 20) x) else if i < 87 then S.sP (S.P.put ((i - 39) % 8) ((i - 39) / 8) x) else if i < 103 then S.sZ (S.Z.zput ((i - 87) % 2) ((i - 87) / 2) x) else if i < 127 then S.sZ (S.Z.pput ((i - 103) % 3) ((i - 103) / 3) x) else S.sN (S.N.sNoted (upd S.N.noted (i - 127) x))
theorem abs_wrl (S : ST) (x : Int32) : ∀ i, i < 19 → abs (wrl S i x) = upd (abs S) i x := by
  intro i hi
  unfold abs
  rw [blk_l _ _ _ _ _ _ _ (by omega)]
  match i, hi with
  | 0, _ => exact congrArg (fun l => blk l S.settings S.P.row S.Z.row S.Z.prg S.N.noted S.E.ev) (low_0 S x)
  | 1, _ => exact congrArg (fun l => blk l S.settings S.P.row S.Z.row S.Z.prg S.N.noted S.E.ev) (low_1 S x)
  | 2, _ => exact congrArg (fun l => blk l S.settings S.P.row S.Z.row S.Z.prg S.N.noted S.E.ev) (low_2 S x)
  | 3, _ => exact congrArg (fun l => blk l S.settings S.P.row S.Z.row S.Z.prg S.N.noted S.E.ev) (low_3 S x)
  | 4, _ => exact congrArg (fun l => blk l S.settings S.P.row S.Z.row S.Z.prg S.N.noted S.E.ev) (low_4 S x)
  | 5, _ => exact congrArg (fun l => blk l S.settings S.P.row S.Z.row S.Z.prg S.N.noted S.E.ev) (low_5 S x)
  | 6, _ => exact congrArg (fun l => blk l S.settings S.P.row S.Z.row S.Z.prg S.N.noted S.E.ev) (low_6 S x)
  | 7, _ => exact congrArg (fun l => blk l S.settings S.P.row S.Z.row S.Z.prg S.N.noted S.E.ev) (low_7 S x)
  | 8, _ => exact congrArg (fun l => blk l S.settings S.P.row S.Z.row S.Z.prg S.N.noted S.E.ev) (low_8 S x)
  | 9, _ => exact congrArg (fun l => blk l S.settings S.P.row S.Z.row S.Z.prg S.N.noted S.E.ev) (low_9 S x)
  | 10, _ => exact congrArg (fun l => blk l S.settings S.P.row S.Z.row S.Z.prg S.N.noted S.E.ev) (low_10 S x)
  | 11, _ => exact congrArg (fun l => blk l S.settings S.P.row S.Z.row S.Z.prg S.N.noted S.E.ev) (low_11 S x)
  | 12, _ => exact congrArg (fun l => blk l S.settings S.P.row S.Z.row S.Z.prg S.N.noted S.E.ev) (low_12 S x)
  | 13, _ => exact congrArg (fun l => blk l S.settings S.P.row S.Z.row S.Z.prg S.N.noted S.E.ev) (low_13 S x)
  | 14, _ => exact congrArg (fun l => blk l S.settings S.P.row S.Z.row S.Z.prg S.N.noted S.E.ev) (low_14 S x)
  | 15, _ => exact congrArg (fun l => blk l S.settings S.P.row S.Z.row S.Z.prg S.N.noted S.E.ev) (low_15 S x)
  | 16, _ => exact congrArg (fun l => blk l S.settings S.P.row S.Z.row S.Z.prg S.N.noted S.E.ev) (low_16 S x)
  | 17, _ => exact congrArg (fun l => blk l S.settings S.P.row S.Z.row S.Z.prg S.N.noted S.E.ev) (low_17 S x)
  | 18, _ => exact congrArg (fun l => blk l S.settings S.P.row S.Z.row S.Z.prg S.N.noted S.E.ev) (low_18 S x)
  | n + 19, h => exact absurd h (by omega)
theorem put_low (S : ST) (w p : Nat) (x : Int32) (h : w < 8) : (S.sP (S.P.put w p x)).lowc = S.lowc := by
  match w, h with
  | 0, _ => rfl
  | 1, _ => rfl
  | 2, _ => rfl
  | 3, _ => rfl
  | 4, _ => rfl
  | 5, _ => rfl
  | 6, _ => rfl
  | 7, _ => rfl
theorem abs_wr (S : ST) (x : Int32) (i : Nat) (h : i < 134) (h2 : i ≠ 19) : abs (wr S i x) = upd (abs S) i x := by
  unfold wr
  split
  · exact abs_wrl S x i (by omega)
  · split
    · unfold abs
      rw [blk_s _ _ _ _ _ _ _ (by omega)]
      rfl
    · split
      · have hw : (i - 39) % 8 < 8 := Nat.mod_lt _ (by decide)
        have hr := upd_row S.P ((i - 39) % 8) ((i - 39) / 8) x hw
        rw [show 8 * ((i - 39) / 8) + (i - 39) % 8 = i - 39 by omega] at hr
        unfold abs
        rw [blk_p _ _ _ _ _ _ _ (by omega), ← hr, put_low S _ _ _ hw]
        rfl
      · split
        · have hw : (i - 87) % 2 < 2 := Nat.mod_lt _ (by decide)
          have hr := upd_zrow S.Z ((i - 87) % 2) ((i - 87) / 2) x hw
          rw [show 2 * ((i - 87) / 2) + (i - 87) % 2 = i - 87 by omega] at hr
          unfold abs
          rw [blk_z _ _ _ _ _ _ _ (by omega), ← hr]
          generalize (i - 87) % 2 = w at *
          match w, hw with
          | 0, _ => rfl
          | 1, _ => rfl
        · split
          · have hw : (i - 103) % 3 < 3 := Nat.mod_lt _ (by decide)
            have hr := upd_prg S.Z ((i - 103) % 3) ((i - 103) / 3) x hw
            rw [show 3 * ((i - 103) / 3) + (i - 103) % 3 = i - 103 by omega] at hr
            unfold abs
            rw [blk_g _ _ _ _ _ _ _ (by omega), ← hr]
            generalize (i - 103) % 3 = w at *
            match w, hw with
            | 0, _ => rfl
            | 1, _ => rfl
            | 2, _ => rfl
          · unfold abs
            rw [blk_n _ _ _ _ _ _ _ (by omega)]
            rfl
