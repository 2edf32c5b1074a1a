/-! ===== FieldPumps: the history ===== -/
def PT.bits (S : PT) : Prop := ∀ i, i < 6 → b01 (S.inService i)
def ZT.bits (S : ZT) : Prop := ∀ i, i < 8 → b01 (S.isOpen i)
def ST.bits (S : ST) : Prop := S.P.bits ∧ S.Z.bits ∧ b01 S.dry
def isH (k : Nat) : Prop := k = 52 ∨ k = 76 ∨ k = 100 ∨ k = 124
def FT.hAt (S : FT) (k : Nat) : ST := if k = 52 then S.h0 else if k = 76 then S.h1 else if k = 100 then S.h2 else S.h3
def FT.hPut (S : FT) (k : Nat) (x : ST) : FT := if k = 52 then S.sH0 x else if k = 76 then S.sH1 x else if k = 100 then S.sH2 x else S.sH3 x
def fpW_saq (S : FT) (id : Nat) (g : Nat → Option Nat) : Option FT := if id = 49 then some (S.sPerm g) else none
theorem fpW_R : ∀ S : FT, getR (fpW S) 49 = some (4, S.perm) := fun _ => rfl
theorem fpW_Q : ∀ (S : FT) (g : Nat → Option Nat), fpW_saq S 49 g = some (S.sPerm g) := fun _ _ => rfl
theorem fpW_sarq : sarqOk fpW fpW_saq := by
  intro S id g S' n f h hA
  unfold fpW_saq at h
  by_cases h1 : id = 49
  · subst h1
    rw [if_pos rfl] at h
    cases h
    cases hA
    rfl
  · rw [if_neg h1] at h
    cases h
def O_hrem (sp : Sp (ST × ST)) : Op FT := fun K pc L st S => match st with
  | .ref k2 :: .ref k1 :: r => k2 = 1 ∧ isH k1 ∧ r.length ≤ 4 ∧ sp [.ref 0, .ref 24] (S.hAt k1, S.now) (fun v P' => K (pc + 3) L (v.toList ++ r) ((S.hPut k1 P'.1).sNow P'.2))
  | _ => False
def O_hundo (sp : Sp (ST × ST)) : Op FT := fun K pc L st S => match st with
  | .ref k2 :: .ref k1 :: r => k1 = 1 ∧ isH k2 ∧ r.length ≤ 4 ∧ sp [.ref 0, .ref 24] (S.now, S.hAt k2) (fun v P' => K (pc + 3) L (v.toList ++ r) ((S.sNow P'.1).hPut k2 P'.2))
  | _ => False
theorem O_h_eq : (∀ (K : Kt FT) (pc : Nat) (S : FT) (L : xL) (r : List Value) (k1 k2 : Nat) (sp : Sp (ST × ST)), O_hrem sp K pc L (.ref k2 :: .ref k1 :: r) S = (k2 = 1 ∧ isH k1 ∧ r.length ≤ 4 ∧ sp [.ref 0, .ref 24] (S.hAt k1, S.now) (fun v P' => K (pc + 3) L (v.toList ++ r) ((S.hPut k1 P'.1).sNow P'.2)))) ∧
  (∀ (K : Kt FT) (pc : Nat) (S : FT) (L : xL) (r : List Value) (k1 k2 : Nat) (sp : Sp (ST × ST)), O_hundo sp K pc L (.ref k2 :: .ref k1 :: r) S = (k1 = 1 ∧ isH k2 ∧ r.length ≤ 4 ∧ sp [.ref 0, .ref 24] (S.now, S.hAt k2) (fun v P' => K (pc + 3) L (v.toList ++ r) ((S.sNow P'.1).hPut k2 P'.2)))) := ⟨fun _ _ _ _ _ _ _ _ => rfl, fun _ _ _ _ _ _ _ _ => rfl⟩
theorem ok_hrem {E : En} {own : String} {cc : ByteArray} {maxL d pc : Nat} (F : Fx E own cc maxL d) {ix : Nat} {y : MethodName} {ycc : ByteArray} {ymL dy : Nat} {yret : Option FieldType} {sp : Sp (ST × ST)} (hsp : SpOk y ycc ymL yret dy stW2 sp) (hrc : rcvOk stW y.cls) (hck : cokV own ix y ycc ymL yret 1 = true) (hdd : dy + 1 ≤ d) (hd : decode cc pc = .ok (.invokevirtual ix, 3)) (hpc : pc + 3 < 100000) : OpOk E fpW pc (O_hrem sp) := by
  intro K L st S h hk
  unfold O_hrem at h
  split at h
  · rename_i k2 k1 r
    obtain ⟨rfl, hH, hr, h⟩ := h
    rcases hH with rfl | rfl | rfl | rfl
    · simp [FT.hAt, FT.hPut] at h
      exact ok_callC F (by decide) hsp ln2_fp_h0_now hrc hck hdd hd hpc K L _ S ⟨rfl, rfl, hr, h⟩ hk
    · simp [FT.hAt, FT.hPut] at h
      exact ok_callC F (by decide) hsp ln2_fp_h1_now hrc hck hdd hd hpc K L _ S ⟨rfl, rfl, hr, h⟩ hk
    · simp [FT.hAt, FT.hPut] at h
      exact ok_callC F (by decide) hsp ln2_fp_h2_now hrc hck hdd hd hpc K L _ S ⟨rfl, rfl, hr, h⟩ hk
    · simp [FT.hAt, FT.hPut] at h
      exact ok_callC F (by decide) hsp ln2_fp_h3_now hrc hck hdd hd hpc K L _ S ⟨rfl, rfl, hr, h⟩ hk
  · exact h.elim
theorem ok_hundo {E : En} {own : String} {cc : ByteArray} {maxL d pc : Nat} (F : Fx E own cc maxL d) {ix : Nat} {y : MethodName} {ycc : ByteArray} {ymL dy : Nat} {yret : Option FieldType} {sp : Sp (ST × ST)} (hsp : SpOk y ycc ymL yret dy stW2 sp) (hrc : rcvOk stW y.cls) (hck : cokV own ix y ycc ymL yret 1 = true) (hdd : dy + 1 ≤ d) (hd : decode cc pc = .ok (.invokevirtual ix, 3)) (hpc : pc + 3 < 100000) : OpOk E fpW pc (O_hundo sp) := by
  intro K L st S h hk
  unfold O_hundo at h
  split at h
  · rename_i k2 k1 r
    obtain ⟨rfl, hH, hr, h⟩ := h
    rcases hH with rfl | rfl | rfl | rfl
    · simp [FT.hAt, FT.hPut] at h
      exact ok_callC F (by decide) hsp ln2_fp_now_h0 hrc hck hdd hd hpc K L _ S ⟨rfl, rfl, hr, h⟩ hk
    · simp [FT.hAt, FT.hPut] at h
      exact ok_callC F (by decide) hsp ln2_fp_now_h1 hrc hck hdd hd hpc K L _ S ⟨rfl, rfl, hr, h⟩ hk
    · simp [FT.hAt, FT.hPut] at h
      exact ok_callC F (by decide) hsp ln2_fp_now_h2 hrc hck hdd hd hpc K L _ S ⟨rfl, rfl, hr, h⟩ hk
    · simp [FT.hAt, FT.hPut] at h
      exact ok_callC F (by decide) hsp ln2_fp_now_h3 hrc hck hdd hd hpc K L _ S ⟨rfl, rfl, hr, h⟩ hk
  · exact h.elim
theorem isH_cell {v : Nat} (h : isH v) (S : FT) : ∃ fs, (fpW S)[v]? = some (.inr (.inl (4, fs))) := by
  rcases h with rfl | rfl | rfl | rfl <;> exact ⟨_, rfl⟩
theorem va_up_eq : ∀ {α : Type} (f : Nat → α) (k j : Nat) (v : α), va_up f k v j = if j = k then v else f j := fun _ _ _ _ => rfl
def FT.pOk (S : FT) : Prop := ∃ p : Nat → Nat, (∀ i, i < 4 → S.perm i = some (p i) ∧ isH (p i)) ∧ ∀ i j, i < 4 → j < 4 → p i = p j → i = j
def FT.k (S : FT) : Nat := S.states.toNatClampNeg
def FT.pAt (S : FT) (i : Nat) : Nat := (S.perm i).getD 0
def FT.histOk (S : FT) : Prop := S.pOk ∧ isN S.states S.k 4
def FT.rot (S : FT) : FT := (S.sPerm (va_up (va_up (va_up (va_up S.perm 0 (S.perm 1)) 1 (S.perm 2)) 2 (S.perm 3)) 3 (S.perm 0))).sStates 3
def FT.rem1 (S : FT) : FT := (S.hPut (S.pAt S.k) S.now).sStates (S.states + 1)
def FT.remember (S : FT) : FT := if S.states < 4 then S.rem1 else S.rot.rem1
theorem hPut_eq : (∀ (S : FT) (k : Nat) (x : ST), (S.hPut k x).now = S.now) ∧ (∀ (S : FT) (k : Nat) (x : ST), (S.hPut k x).trial = S.trial) ∧ (∀ (S : FT) (k : Nat) (x : ST), (S.hPut k x).O = S.O) ∧ (∀ (S : FT) (k : Nat) (x : ST), (S.hPut k x).states = S.states) ∧ (∀ (S : FT) (k : Nat) (x : ST), (S.hPut k x).perm = S.perm) ∧ (∀ (S : FT) (k : Nat), isH k → S.hPut k (S.hAt k) = S) ∧ (∀ (S : FT) (k : Nat) (x y : ST), (S.sNow y).hPut k x = (S.hPut k x).sNow y) ∧ (∀ (S : FT) (k : Nat) (y : ST), (S.sNow y).hAt k = S.hAt k) ∧ (∀ (S : FT) (k : Nat) (y : Int32), (S.sStates y).hAt k = S.hAt k) ∧ (∀ (S : FT) (k : Nat) (x : ST) (y : Int32), (S.sStates y).hPut k x = (S.hPut k x).sStates y) ∧ (∀ (S : FT) (k : Nat) (x : ST), (S.hPut k x).sNow S.now = S.hPut k x) := by
  refine ⟨fun S k x => ?_, fun S k x => ?_, fun S k x => ?_, fun S k x => ?_, fun S k x => ?_, fun S k h => ?_, fun S k x y => ?_, fun S k y => ?_, fun S k y => ?_, fun S k x y => ?_, fun S k x => ?_⟩
  rotate_left 5
  · rcases h with rfl | rfl | rfl | rfl <;> rfl
  all_goals
    simp only [FT.hPut, FT.hAt]
    repeat' split
    all_goals rfl
theorem lt4 : (¬ (4 : Int32) < 4) ∧ ((1 : Int32) < 4) ∧ ((2 : Int32) < 4) ∧ ((3 : Int32) < 4) ∧ ((1 : Int32) + 1 = 2) ∧ ((2 : Int32) + 1 = 3) ∧ ((3 : Int32) + 1 = 4) ∧ ((1 : Int32) - 1 = 0) ∧ ((2 : Int32) - 1 = 1) ∧ ((3 : Int32) - 1 = 2) ∧ ((4 : Int32) - 1 = 3) ∧ ((0 : Int32) < 4) ∧ vp_in 0 4 ∧ vp_in 1 4 ∧ vp_in 2 4 ∧ vp_in 3 4 ∧ ((0 : Int32) + 1 = 1) ∧ ((0 : Nat) = 1) = False ∧ ((0 : Nat) = 2) = False ∧ ((0 : Nat) = 3) = False ∧ ((1 : Nat) = 0) = False ∧ ((1 : Nat) = 2) = False ∧ ((1 : Nat) = 3) = False ∧ ((2 : Nat) = 0) = False ∧ ((2 : Nat) = 1) = False ∧ ((2 : Nat) = 3) = False ∧ ((3 : Nat) = 0) = False ∧ ((3 : Nat) = 1) = False ∧ ((3 : Nat) = 2) = False := by unfold vp_in; decide +kernel
theorem flX6_10 : fldOk RX6 10 6 0 = true := by decide +kernel
theorem flX6_19 : fldOk RX6 19 6 2 = true := by decide +kernel
theorem flX6_238 : fldOk RX6 238 6 3 = true := by decide +kernel
def cod_X6_remember : List (Nat × Op FT) := [(0, O_aload 0 1), (1, O_getf fpW 6 3), (4, O_int 4 1), (5, O_icmp_lt 54), (8, O_aload 0 1), (9, O_getf fpW 6 2), (12, O_int 0 1), (13, O_aald fpW), (14, O_astore 1 1), (15, O_int 1 1), (16, O_istore 2 1), (17, O_iload 2 1), (18, O_int 4 1), (19, O_icmp_ge 42), (22, O_aload 0 1), (23, O_getf fpW 6 2), (26, O_iload 2 1), (27, O_int 1 1), (28, O_isub), (29, O_aload 0 1), (30, O_getf fpW 6 2), (33, O_iload 2 1), (34, O_aald fpW), (35, O_aast fpW fpW_saq), (36, O_iinc 2 1), (39, O_goto 17), (42, O_aload 0 1), (43, O_getf fpW 6 2), (46, O_int 3 1), (47, O_aload 1 1), (48, O_aast fpW fpW_saq), (49, O_aload 0 1), (50, O_int 3 1), (51, O_puti fpW_p6_3), (54, O_aload 0 1), (55, O_getf fpW 6 2), (58, O_aload 0 1), (59, O_getf fpW 6 3), (62, O_aald fpW), (63, O_astore 1 1), (64, O_aload 1 1), (65, O_ifnull), (68, O_aload 1 1), (69, O_aload 0 1), (70, O_getf fpW 6 0), (73, O_hrem sp_X4_copyFrom), (76, O_aload 0 1), (77, O_dup), (78, O_getf fpW 6 3), (81, O_int 1 1), (82, O_iadd), (83, O_puti fpW_p6_3), (86, O_vret)]
abbrev cut_X6_remember : List Nat := [17]
set_option maxRecDepth 100000 in
theorem okc_X6_remember {E : En} (F : Fx E RX6 cX6_remember 3 3) (G : Fr E none) : CodOk E fpW cod_X6_remember := by
  unfold CodOk cod_X6_remember
  refine List.forall_mem_cons.mpr ⟨ok_aload_n F dX6_remember_0 rfl (by decide), ?_⟩
  refine List.forall_mem_cons.mpr ⟨ok_getf F flX6_238 dX6_remember_1 (by decide), ?_⟩
  refine List.forall_mem_cons.mpr ⟨ok_iconst F dX6_remember_4 (by decide) (by decide), ?_⟩
  refine List.forall_mem_cons.mpr ⟨ok_icmp_lt F dX6_remember_5 (by decide) (by decide) (by decide), ?_⟩
  refine List.forall_mem_cons.mpr ⟨ok_aload_n F dX6_remember_8 rfl (by decide), ?_⟩
  refine List.forall_mem_cons.mpr ⟨ok_getf F flX6_19 dX6_remember_9 (by decide), ?_⟩
  refine List.forall_mem_cons.mpr ⟨ok_iconst F dX6_remember_12 (by decide) (by decide), ?_⟩
  refine List.forall_mem_cons.mpr ⟨ok_aald F dX6_remember_13 (by decide), ?_⟩
  refine List.forall_mem_cons.mpr ⟨ok_astore_n F dX6_remember_14 rfl (by decide) (by decide), ?_⟩
  refine List.forall_mem_cons.mpr ⟨ok_iconst F dX6_remember_15 (by decide) (by decide), ?_⟩
  refine List.forall_mem_cons.mpr ⟨ok_istore_n F dX6_remember_16 rfl (by decide) (by decide), ?_⟩
  refine List.forall_mem_cons.mpr ⟨ok_iload_n F dX6_remember_17 rfl (by decide), ?_⟩
  refine List.forall_mem_cons.mpr ⟨ok_iconst F dX6_remember_18 (by decide) (by decide), ?_⟩
  refine List.forall_mem_cons.mpr ⟨ok_icmp_ge F dX6_remember_19 (by decide) (by decide) (by decide), ?_⟩
  refine List.forall_mem_cons.mpr ⟨ok_aload_n F dX6_remember_22 rfl (by decide), ?_⟩
  refine List.forall_mem_cons.mpr ⟨ok_getf F flX6_19 dX6_remember_23 (by decide), ?_⟩
  refine List.forall_mem_cons.mpr ⟨ok_iload_n F dX6_remember_26 rfl (by decide), ?_⟩
  refine List.forall_mem_cons.mpr ⟨ok_iconst F dX6_remember_27 (by decide) (by decide), ?_⟩
  refine List.forall_mem_cons.mpr ⟨ok_isub F dX6_remember_28 (by decide), ?_⟩
  refine List.forall_mem_cons.mpr ⟨ok_aload_n F dX6_remember_29 rfl (by decide), ?_⟩
  refine List.forall_mem_cons.mpr ⟨ok_getf F flX6_19 dX6_remember_30 (by decide), ?_⟩
  refine List.forall_mem_cons.mpr ⟨ok_iload_n F dX6_remember_33 rfl (by decide), ?_⟩
  refine List.forall_mem_cons.mpr ⟨ok_aald F dX6_remember_34 (by decide), ?_⟩
  refine List.forall_mem_cons.mpr ⟨ok_aast F fpW_sarq dX6_remember_35 (by decide), ?_⟩
  refine List.forall_mem_cons.mpr ⟨ok_iinc F dX6_remember_36 (by decide) (by decide) (by decide), ?_⟩
  refine List.forall_mem_cons.mpr ⟨ok_goto F dX6_remember_39 (by decide) (by decide) (by decide), ?_⟩
  refine List.forall_mem_cons.mpr ⟨ok_aload_n F dX6_remember_42 rfl (by decide), ?_⟩
  refine List.forall_mem_cons.mpr ⟨ok_getf F flX6_19 dX6_remember_43 (by decide), ?_⟩
  refine List.forall_mem_cons.mpr ⟨ok_iconst F dX6_remember_46 (by decide) (by decide), ?_⟩
  refine List.forall_mem_cons.mpr ⟨ok_aload_n F dX6_remember_47 rfl (by decide), ?_⟩
  refine List.forall_mem_cons.mpr ⟨ok_aast F fpW_sarq dX6_remember_48 (by decide), ?_⟩
  refine List.forall_mem_cons.mpr ⟨ok_aload_n F dX6_remember_49 rfl (by decide), ?_⟩
  refine List.forall_mem_cons.mpr ⟨ok_iconst F dX6_remember_50 (by decide) (by decide), ?_⟩
  refine List.forall_mem_cons.mpr ⟨ok_puti F fpW_p6_3_ok (fun _ _ _ h => by cases h; rfl) rfl flX6_238 dX6_remember_51 (by decide), ?_⟩
  refine List.forall_mem_cons.mpr ⟨ok_aload_n F dX6_remember_54 rfl (by decide), ?_⟩
  refine List.forall_mem_cons.mpr ⟨ok_getf F flX6_19 dX6_remember_55 (by decide), ?_⟩
  refine List.forall_mem_cons.mpr ⟨ok_aload_n F dX6_remember_58 rfl (by decide), ?_⟩
  refine List.forall_mem_cons.mpr ⟨ok_getf F flX6_238 dX6_remember_59 (by decide), ?_⟩
  refine List.forall_mem_cons.mpr ⟨ok_aald F dX6_remember_62 (by decide), ?_⟩
  refine List.forall_mem_cons.mpr ⟨ok_astore_n F dX6_remember_63 rfl (by decide) (by decide), ?_⟩
  refine List.forall_mem_cons.mpr ⟨ok_aload_n F dX6_remember_64 rfl (by decide), ?_⟩
  refine List.forall_mem_cons.mpr ⟨ok_ifnull F dX6_remember_65 (by decide), ?_⟩
  refine List.forall_mem_cons.mpr ⟨ok_aload_n F dX6_remember_68 rfl (by decide), ?_⟩
  refine List.forall_mem_cons.mpr ⟨ok_aload_n F dX6_remember_69 rfl (by decide), ?_⟩
  refine List.forall_mem_cons.mpr ⟨ok_getf F flX6_10 dX6_remember_70 (by decide), ?_⟩
  refine List.forall_mem_cons.mpr ⟨ok_hrem F spok_X4_copyFrom rcv_stW (by decide +kernel) (by decide) dX6_remember_73 (by decide), ?_⟩
  refine List.forall_mem_cons.mpr ⟨ok_aload_n F dX6_remember_76 rfl (by decide), ?_⟩
  refine List.forall_mem_cons.mpr ⟨ok_dup F dX6_remember_77 (by decide), ?_⟩
  refine List.forall_mem_cons.mpr ⟨ok_getf F flX6_238 dX6_remember_78 (by decide), ?_⟩
  refine List.forall_mem_cons.mpr ⟨ok_iconst F dX6_remember_81 (by decide) (by decide), ?_⟩
  refine List.forall_mem_cons.mpr ⟨ok_iadd F dX6_remember_82 (by decide), ?_⟩
  refine List.forall_mem_cons.mpr ⟨ok_puti F fpW_p6_3_ok (fun _ _ _ h => by cases h; rfl) rfl flX6_238 dX6_remember_83 (by decide), ?_⟩
  refine List.forall_mem_cons.mpr ⟨ok_vret F G dX6_remember_86 (by decide), ?_⟩
  exact fun _ h => absurd h List.not_mem_nil
set_option maxRecDepth 100000 in
theorem w_X6_remember : (∀ (K : Kt FT) (n : Nat) (L : xL) (st : List Value) (S : FT), nx cod_X6_remember cut_X6_remember K (n + 1) 0 L st S = (O_aload 0 1) (nx cod_X6_remember cut_X6_remember K n) 0 L st S) ∧
  (∀ (K : Kt FT) (n : Nat) (L : xL) (st : List Value) (S : FT), nx cod_X6_remember cut_X6_remember K (n + 1) 1 L st S = (O_getf fpW 6 3) (nx cod_X6_remember cut_X6_remember K n) 1 L st S) ∧
  (∀ (K : Kt FT) (n : Nat) (L : xL) (st : List Value) (S : FT), nx cod_X6_remember cut_X6_remember K (n + 1) 4 L st S = (O_int 4 1) (nx cod_X6_remember cut_X6_remember K n) 4 L st S) ∧
  (∀ (K : Kt FT) (n : Nat) (L : xL) (st : List Value) (S : FT), nx cod_X6_remember cut_X6_remember K (n + 1) 5 L st S = (O_icmp_lt 54) (nx cod_X6_remember cut_X6_remember K n) 5 L st S) ∧
  (∀ (K : Kt FT) (n : Nat) (L : xL) (st : List Value) (S : FT), nx cod_X6_remember cut_X6_remember K (n + 1) 8 L st S = (O_aload 0 1) (nx cod_X6_remember cut_X6_remember K n) 8 L st S) ∧
  (∀ (K : Kt FT) (n : Nat) (L : xL) (st : List Value) (S : FT), nx cod_X6_remember cut_X6_remember K (n + 1) 9 L st S = (O_getf fpW 6 2) (nx cod_X6_remember cut_X6_remember K n) 9 L st S) ∧
  (∀ (K : Kt FT) (n : Nat) (L : xL) (st : List Value) (S : FT), nx cod_X6_remember cut_X6_remember K (n + 1) 12 L st S = (O_int 0 1) (nx cod_X6_remember cut_X6_remember K n) 12 L st S) ∧
  (∀ (K : Kt FT) (n : Nat) (L : xL) (st : List Value) (S : FT), nx cod_X6_remember cut_X6_remember K (n + 1) 13 L st S = (O_aald fpW) (nx cod_X6_remember cut_X6_remember K n) 13 L st S) ∧
  (∀ (K : Kt FT) (n : Nat) (L : xL) (st : List Value) (S : FT), nx cod_X6_remember cut_X6_remember K (n + 1) 14 L st S = (O_astore 1 1) (nx cod_X6_remember cut_X6_remember K n) 14 L st S) ∧
  (∀ (K : Kt FT) (n : Nat) (L : xL) (st : List Value) (S : FT), nx cod_X6_remember cut_X6_remember K (n + 1) 15 L st S = (O_int 1 1) (nx cod_X6_remember cut_X6_remember K n) 15 L st S) ∧
  (∀ (K : Kt FT) (n : Nat) (L : xL) (st : List Value) (S : FT), nx cod_X6_remember cut_X6_remember K (n + 1) 16 L st S = (O_istore 2 1) (nx cod_X6_remember cut_X6_remember K n) 16 L st S) ∧
  (∀ (K : Kt FT) (n : Nat) (L : xL) (st : List Value) (S : FT), nx cod_X6_remember cut_X6_remember K (n + 1) 17 L st S = K 17 L st S) ∧
  (∀ (K : Kt FT) (n : Nat) (L : xL) (st : List Value) (S : FT), nx1 cod_X6_remember cut_X6_remember K n 17 L st S = (O_iload 2 1) (nx cod_X6_remember cut_X6_remember K n) 17 L st S) ∧
  (∀ (K : Kt FT) (n : Nat) (L : xL) (st : List Value) (S : FT), nx cod_X6_remember cut_X6_remember K (n + 1) 18 L st S = (O_int 4 1) (nx cod_X6_remember cut_X6_remember K n) 18 L st S) ∧
  (∀ (K : Kt FT) (n : Nat) (L : xL) (st : List Value) (S : FT), nx cod_X6_remember cut_X6_remember K (n + 1) 19 L st S = (O_icmp_ge 42) (nx cod_X6_remember cut_X6_remember K n) 19 L st S) ∧
  (∀ (K : Kt FT) (n : Nat) (L : xL) (st : List Value) (S : FT), nx cod_X6_remember cut_X6_remember K (n + 1) 22 L st S = (O_aload 0 1) (nx cod_X6_remember cut_X6_remember K n) 22 L st S) ∧
  (∀ (K : Kt FT) (n : Nat) (L : xL) (st : List Value) (S : FT), nx cod_X6_remember cut_X6_remember K (n + 1) 23 L st S = (O_getf fpW 6 2) (nx cod_X6_remember cut_X6_remember K n) 23 L st S) ∧
  (∀ (K : Kt FT) (n : Nat) (L : xL) (st : List Value) (S : FT), nx cod_X6_remember cut_X6_remember K (n + 1) 26 L st S = (O_iload 2 1) (nx cod_X6_remember cut_X6_remember K n) 26 L st S) ∧
  (∀ (K : Kt FT) (n : Nat) (L : xL) (st : List Value) (S : FT), nx cod_X6_remember cut_X6_remember K (n + 1) 27 L st S = (O_int 1 1) (nx cod_X6_remember cut_X6_remember K n) 27 L st S) ∧
  (∀ (K : Kt FT) (n : Nat) (L : xL) (st : List Value) (S : FT), nx cod_X6_remember cut_X6_remember K (n + 1) 28 L st S = (O_isub) (nx cod_X6_remember cut_X6_remember K n) 28 L st S) ∧
  (∀ (K : Kt FT) (n : Nat) (L : xL) (st : List Value) (S : FT), nx cod_X6_remember cut_X6_remember K (n + 1) 29 L st S = (O_aload 0 1) (nx cod_X6_remember cut_X6_remember K n) 29 L st S) ∧
  (∀ (K : Kt FT) (n : Nat) (L : xL) (st : List Value) (S : FT), nx cod_X6_remember cut_X6_remember K (n + 1) 30 L st S = (O_getf fpW 6 2) (nx cod_X6_remember cut_X6_remember K n) 30 L st S) ∧
  (∀ (K : Kt FT) (n : Nat) (L : xL) (st : List Value) (S : FT), nx cod_X6_remember cut_X6_remember K (n + 1) 33 L st S = (O_iload 2 1) (nx cod_X6_remember cut_X6_remember K n) 33 L st S) ∧
  (∀ (K : Kt FT) (n : Nat) (L : xL) (st : List Value) (S : FT), nx cod_X6_remember cut_X6_remember K (n + 1) 34 L st S = (O_aald fpW) (nx cod_X6_remember cut_X6_remember K n) 34 L st S) ∧
  (∀ (K : Kt FT) (n : Nat) (L : xL) (st : List Value) (S : FT), nx cod_X6_remember cut_X6_remember K (n + 1) 35 L st S = (O_aast fpW fpW_saq) (nx cod_X6_remember cut_X6_remember K n) 35 L st S) ∧
  (∀ (K : Kt FT) (n : Nat) (L : xL) (st : List Value) (S : FT), nx cod_X6_remember cut_X6_remember K (n + 1) 36 L st S = (O_iinc 2 1) (nx cod_X6_remember cut_X6_remember K n) 36 L st S) ∧
  (∀ (K : Kt FT) (n : Nat) (L : xL) (st : List Value) (S : FT), nx cod_X6_remember cut_X6_remember K (n + 1) 39 L st S = (O_goto 17) (nx cod_X6_remember cut_X6_remember K n) 39 L st S) ∧
  (∀ (K : Kt FT) (n : Nat) (L : xL) (st : List Value) (S : FT), nx cod_X6_remember cut_X6_remember K (n + 1) 42 L st S = (O_aload 0 1) (nx cod_X6_remember cut_X6_remember K n) 42 L st S) ∧
  (∀ (K : Kt FT) (n : Nat) (L : xL) (st : List Value) (S : FT), nx cod_X6_remember cut_X6_remember K (n + 1) 43 L st S = (O_getf fpW 6 2) (nx cod_X6_remember cut_X6_remember K n) 43 L st S) ∧
  (∀ (K : Kt FT) (n : Nat) (L : xL) (st : List Value) (S : FT), nx cod_X6_remember cut_X6_remember K (n + 1) 46 L st S = (O_int 3 1) (nx cod_X6_remember cut_X6_remember K n) 46 L st S) ∧
  (∀ (K : Kt FT) (n : Nat) (L : xL) (st : List Value) (S : FT), nx cod_X6_remember cut_X6_remember K (n + 1) 47 L st S = (O_aload 1 1) (nx cod_X6_remember cut_X6_remember K n) 47 L st S) ∧
  (∀ (K : Kt FT) (n : Nat) (L : xL) (st : List Value) (S : FT), nx cod_X6_remember cut_X6_remember K (n + 1) 48 L st S = (O_aast fpW fpW_saq) (nx cod_X6_remember cut_X6_remember K n) 48 L st S) ∧
  (∀ (K : Kt FT) (n : Nat) (L : xL) (st : List Value) (S : FT), nx cod_X6_remember cut_X6_remember K (n + 1) 49 L st S = (O_aload 0 1) (nx cod_X6_remember cut_X6_remember K n) 49 L st S) ∧
  (∀ (K : Kt FT) (n : Nat) (L : xL) (st : List Value) (S : FT), nx cod_X6_remember cut_X6_remember K (n + 1) 50 L st S = (O_int 3 1) (nx cod_X6_remember cut_X6_remember K n) 50 L st S) ∧
  (∀ (K : Kt FT) (n : Nat) (L : xL) (st : List Value) (S : FT), nx cod_X6_remember cut_X6_remember K (n + 1) 51 L st S = (O_puti fpW_p6_3) (nx cod_X6_remember cut_X6_remember K n) 51 L st S) ∧
  (∀ (K : Kt FT) (n : Nat) (L : xL) (st : List Value) (S : FT), nx cod_X6_remember cut_X6_remember K (n + 1) 54 L st S = (O_aload 0 1) (nx cod_X6_remember cut_X6_remember K n) 54 L st S) ∧
  (∀ (K : Kt FT) (n : Nat) (L : xL) (st : List Value) (S : FT), nx cod_X6_remember cut_X6_remember K (n + 1) 55 L st S = (O_getf fpW 6 2) (nx cod_X6_remember cut_X6_remember K n) 55 L st S) ∧
  (∀ (K : Kt FT) (n : Nat) (L : xL) (st : List Value) (S : FT), nx cod_X6_remember cut_X6_remember K (n + 1) 58 L st S = (O_aload 0 1) (nx cod_X6_remember cut_X6_remember K n) 58 L st S) ∧
  (∀ (K : Kt FT) (n : Nat) (L : xL) (st : List Value) (S : FT), nx cod_X6_remember cut_X6_remember K (n + 1) 59 L st S = (O_getf fpW 6 3) (nx cod_X6_remember cut_X6_remember K n) 59 L st S) ∧
  (∀ (K : Kt FT) (n : Nat) (L : xL) (st : List Value) (S : FT), nx cod_X6_remember cut_X6_remember K (n + 1) 62 L st S = (O_aald fpW) (nx cod_X6_remember cut_X6_remember K n) 62 L st S) ∧
  (∀ (K : Kt FT) (n : Nat) (L : xL) (st : List Value) (S : FT), nx cod_X6_remember cut_X6_remember K (n + 1) 63 L st S = (O_astore 1 1) (nx cod_X6_remember cut_X6_remember K n) 63 L st S) ∧
  (∀ (K : Kt FT) (n : Nat) (L : xL) (st : List Value) (S : FT), nx cod_X6_remember cut_X6_remember K (n + 1) 64 L st S = (O_aload 1 1) (nx cod_X6_remember cut_X6_remember K n) 64 L st S) ∧
  (∀ (K : Kt FT) (n : Nat) (L : xL) (st : List Value) (S : FT), nx cod_X6_remember cut_X6_remember K (n + 1) 65 L st S = (O_ifnull) (nx cod_X6_remember cut_X6_remember K n) 65 L st S) ∧
  (∀ (K : Kt FT) (n : Nat) (L : xL) (st : List Value) (S : FT), nx cod_X6_remember cut_X6_remember K (n + 1) 68 L st S = (O_aload 1 1) (nx cod_X6_remember cut_X6_remember K n) 68 L st S) ∧
  (∀ (K : Kt FT) (n : Nat) (L : xL) (st : List Value) (S : FT), nx cod_X6_remember cut_X6_remember K (n + 1) 69 L st S = (O_aload 0 1) (nx cod_X6_remember cut_X6_remember K n) 69 L st S) ∧
  (∀ (K : Kt FT) (n : Nat) (L : xL) (st : List Value) (S : FT), nx cod_X6_remember cut_X6_remember K (n + 1) 70 L st S = (O_getf fpW 6 0) (nx cod_X6_remember cut_X6_remember K n) 70 L st S) ∧
  (∀ (K : Kt FT) (n : Nat) (L : xL) (st : List Value) (S : FT), nx cod_X6_remember cut_X6_remember K (n + 1) 73 L st S = (O_hrem sp_X4_copyFrom) (nx cod_X6_remember cut_X6_remember K n) 73 L st S) ∧
  (∀ (K : Kt FT) (n : Nat) (L : xL) (st : List Value) (S : FT), nx cod_X6_remember cut_X6_remember K (n + 1) 76 L st S = (O_aload 0 1) (nx cod_X6_remember cut_X6_remember K n) 76 L st S) ∧
  (∀ (K : Kt FT) (n : Nat) (L : xL) (st : List Value) (S : FT), nx cod_X6_remember cut_X6_remember K (n + 1) 77 L st S = (O_dup) (nx cod_X6_remember cut_X6_remember K n) 77 L st S) ∧
  (∀ (K : Kt FT) (n : Nat) (L : xL) (st : List Value) (S : FT), nx cod_X6_remember cut_X6_remember K (n + 1) 78 L st S = (O_getf fpW 6 3) (nx cod_X6_remember cut_X6_remember K n) 78 L st S) ∧
  (∀ (K : Kt FT) (n : Nat) (L : xL) (st : List Value) (S : FT), nx cod_X6_remember cut_X6_remember K (n + 1) 81 L st S = (O_int 1 1) (nx cod_X6_remember cut_X6_remember K n) 81 L st S) ∧
  (∀ (K : Kt FT) (n : Nat) (L : xL) (st : List Value) (S : FT), nx cod_X6_remember cut_X6_remember K (n + 1) 82 L st S = (O_iadd) (nx cod_X6_remember cut_X6_remember K n) 82 L st S) ∧
  (∀ (K : Kt FT) (n : Nat) (L : xL) (st : List Value) (S : FT), nx cod_X6_remember cut_X6_remember K (n + 1) 83 L st S = (O_puti fpW_p6_3) (nx cod_X6_remember cut_X6_remember K n) 83 L st S) ∧
  (∀ (K : Kt FT) (n : Nat) (L : xL) (st : List Value) (S : FT), nx cod_X6_remember cut_X6_remember K (n + 1) 86 L st S = (O_vret) (nx cod_X6_remember cut_X6_remember K n) 86 L st S) ∧
  (∀ (K : Kt FT) (n : Nat) (L : xL) (st : List Value) (S : FT), nx cod_X6_remember cut_X6_remember K (n + 1) 100000 L st S = K 100000 L st S) := by
  repeat' apply And.intro
  all_goals (intros; rfl)
set_option maxRecDepth 100000 in
theorem mk_X6_remember {P P' : FT} {r : Option Value}  (body : ∀ E : En, CodOk E fpW cod_X6_remember → Gd E fpW 100000 [] r.toList P' → Gd E fpW 0 [some (.ref 0), none, none] [] P) : Con yX6_remember cX6_remember 3 none 3 fpW [.ref 0] P r P' :=
  Con.of (by decide) rfl rfl (Nat.le_of_ble_eq_true rfl) (fun E F G hr => body E (okc_X6_remember F G) hr)
set_option maxRecDepth 10000 in
theorem con_X6_remember (S : FT)  (hp : S.histOk ∧ S.now.bits) : Con yX6_remember cX6_remember 3 none 3 fpW [.ref 0] S (none) (S.remember) := by
  refine mk_X6_remember (fun E C hr => ?_)
  obtain ⟨⟨⟨p, hp1, hp2⟩, hk1, hk2, hk3⟩, hb⟩ := hp
  have f0 := hp1 0 (by decide)
  have f1 := hp1 1 (by decide)
  have f2 := hp1 2 (by decide)
  have f3 := hp1 3 (by decide)
  have hb1 := hb.1
  have hb2 := hb.2.1
  have hb3 := hb.2.2
  unfold PT.bits at hb1
  unfold ZT.bits at hb2
  have c0 := isH_cell f0.2
  have c1 := isH_cell f1.2
  have c2 := isH_cell f2.2
  have c3 := isH_cell f3.2
  have hs : S.states = 0 ∨ S.states = 1 ∨ S.states = 2 ∨ S.states = 3 ∨ S.states = 4 := by
    have : S.k = 0 ∨ S.k = 1 ∨ S.k = 2 ∨ S.k = 3 ∨ S.k = 4 := by omega
    rcases this with q | q | q | q | q <;> rw [q] at hk1 <;> rw [hk1] <;> decide
  clear hk1 hk2 hk3 hp1 hp2 hb
  unfold FT.remember FT.rem1 FT.rot FT.pAt FT.k at hr
  rcases hs with hs | hs | hs | hs | hs
  · simp only [hs, lt4, cl_eq, f0, f1, f2, f3, Option.getD_some, reduceIte, hPut_eq, va_up_eq, FT_gs] at hr
    (refine nx_ok C (cuts := cut_X6_remember) 1000 _ _ _ _ ?_; simp only [w_X6_remember, ops_eq, xst_eq, call_eq, oK_eq, Option.toList_some, Option.toList_none, List.cons_append, List.nil_append, List.length_cons, List.length_nil, true_and, and_true, Nat.reduceAdd, fpW_F, fpW_A, fpW_S, fpW_P, FT_id, ST_id, FT_gs, ST_gs, PT_gs, ZT_gs, NT_gs, ET_gs, OT_gs, se_X4_copyFrom, hs, f0, f1, f2, f3, c0, c1, c2, c3, hb1, hb2, hb3, lt4, cl_eq, fpW_R, fpW_Q, O_h_eq, hPut_eq, va_up_eq, eq_self, reduceIte])
    clear c0 c1 c2 c3 f0 f1 f2 f3 hb3
    ((repeat' (with_reducible first | apply And.intro | intro _)) <;> simp_all [lt4, oK_eq, FT_id, ST_id, FT_gs, ST_gs, PT_gs, ZT_gs, NT_gs, ET_gs, OT_gs])
  · simp only [hs, lt4, cl_eq, f0, f1, f2, f3, Option.getD_some, reduceIte, hPut_eq, va_up_eq, FT_gs] at hr
    (refine nx_ok C (cuts := cut_X6_remember) 1000 _ _ _ _ ?_; simp only [w_X6_remember, ops_eq, xst_eq, call_eq, oK_eq, Option.toList_some, Option.toList_none, List.cons_append, List.nil_append, List.length_cons, List.length_nil, true_and, and_true, Nat.reduceAdd, fpW_F, fpW_A, fpW_S, fpW_P, FT_id, ST_id, FT_gs, ST_gs, PT_gs, ZT_gs, NT_gs, ET_gs, OT_gs, se_X4_copyFrom, hs, f0, f1, f2, f3, c0, c1, c2, c3, hb1, hb2, hb3, lt4, cl_eq, fpW_R, fpW_Q, O_h_eq, hPut_eq, va_up_eq, eq_self, reduceIte])
    clear c0 c1 c2 c3 f0 f1 f2 f3 hb3
    ((repeat' (with_reducible first | apply And.intro | intro _)) <;> simp_all [lt4, oK_eq, FT_id, ST_id, FT_gs, ST_gs, PT_gs, ZT_gs, NT_gs, ET_gs, OT_gs])
  · simp only [hs, lt4, cl_eq, f0, f1, f2, f3, Option.getD_some, reduceIte, hPut_eq, va_up_eq, FT_gs] at hr
    (refine nx_ok C (cuts := cut_X6_remember) 1000 _ _ _ _ ?_; simp only [w_X6_remember, ops_eq, xst_eq, call_eq, oK_eq, Option.toList_some, Option.toList_none, List.cons_append, List.nil_append, List.length_cons, List.length_nil, true_and, and_true, Nat.reduceAdd, fpW_F, fpW_A, fpW_S, fpW_P, FT_id, ST_id, FT_gs, ST_gs, PT_gs, ZT_gs, NT_gs, ET_gs, OT_gs, se_X4_copyFrom, hs, f0, f1, f2, f3, c0, c1, c2, c3, hb1, hb2, hb3, lt4, cl_eq, fpW_R, fpW_Q, O_h_eq, hPut_eq, va_up_eq, eq_self, reduceIte])
    clear c0 c1 c2 c3 f0 f1 f2 f3 hb3
    ((repeat' (with_reducible first | apply And.intro | intro _)) <;> simp_all [lt4, oK_eq, FT_id, ST_id, FT_gs, ST_gs, PT_gs, ZT_gs, NT_gs, ET_gs, OT_gs])
  · simp only [hs, lt4, cl_eq, f0, f1, f2, f3, Option.getD_some, reduceIte, hPut_eq, va_up_eq, FT_gs] at hr
    (refine nx_ok C (cuts := cut_X6_remember) 1000 _ _ _ _ ?_; simp only [w_X6_remember, ops_eq, xst_eq, call_eq, oK_eq, Option.toList_some, Option.toList_none, List.cons_append, List.nil_append, List.length_cons, List.length_nil, true_and, and_true, Nat.reduceAdd, fpW_F, fpW_A, fpW_S, fpW_P, FT_id, ST_id, FT_gs, ST_gs, PT_gs, ZT_gs, NT_gs, ET_gs, OT_gs, se_X4_copyFrom, hs, f0, f1, f2, f3, c0, c1, c2, c3, hb1, hb2, hb3, lt4, cl_eq, fpW_R, fpW_Q, O_h_eq, hPut_eq, va_up_eq, eq_self, reduceIte])
    clear c0 c1 c2 c3 f0 f1 f2 f3 hb3
    ((repeat' (with_reducible first | apply And.intro | intro _)) <;> simp_all [lt4, oK_eq, FT_id, ST_id, FT_gs, ST_gs, PT_gs, ZT_gs, NT_gs, ET_gs, OT_gs])
  · simp only [hs, lt4, cl_eq, f0, f1, f2, f3, Option.getD_some, reduceIte, hPut_eq, va_up_eq, FT_gs] at hr
    have cc0 := fun q : Nat → Option Nat => isH_cell f0.2 (S.sPerm q)
    have cc1 := fun q : Nat → Option Nat => isH_cell f1.2 (S.sPerm q)
    have cc2 := fun q : Nat → Option Nat => isH_cell f2.2 (S.sPerm q)
    have cc3 := fun q : Nat → Option Nat => isH_cell f3.2 (S.sPerm q)
    have w4 : Gd E fpW 17 [some (.ref 0), some (.ref (p 0)), some (.int 4)] [] (S.sPerm (va_up (va_up (va_up S.perm 0 (some (p 1))) 1 (some (p 2))) 2 (some (p 3)))) := by
      (refine nx1_ok C cut_X6_remember 1000 ?_; simp only [w_X6_remember, ops_eq, xst_eq, call_eq, oK_eq, Option.toList_some, Option.toList_none, List.cons_append, List.nil_append, List.length_cons, List.length_nil, true_and, and_true, Nat.reduceAdd, fpW_F, fpW_A, fpW_S, fpW_P, FT_id, ST_id, FT_gs, ST_gs, PT_gs, ZT_gs, NT_gs, ET_gs, OT_gs, se_X4_copyFrom, hs, f0, f1, f2, f3, cc0, cc1, cc2, cc3, hb1, hb2, hb3, lt4, cl_eq, fpW_R, fpW_Q, O_h_eq, hPut_eq, va_up_eq, eq_self, reduceIte])
      clear c0 c1 c2 c3 cc0 cc1 cc2 cc3 f0 f1 f2 f3 hb3
      ((repeat' (with_reducible first | apply And.intro | intro _)) <;> simp_all [lt4, oK_eq, FT_id, ST_id, FT_gs, ST_gs, PT_gs, ZT_gs, NT_gs, ET_gs, OT_gs])
    have w3 : Gd E fpW 17 [some (.ref 0), some (.ref (p 0)), some (.int 3)] [] (S.sPerm (va_up (va_up S.perm 0 (some (p 1))) 1 (some (p 2)))) := by
      clear hr
      (refine nx1_ok C cut_X6_remember 1000 ?_; simp only [w_X6_remember, ops_eq, xst_eq, call_eq, oK_eq, Option.toList_some, Option.toList_none, List.cons_append, List.nil_append, List.length_cons, List.length_nil, true_and, and_true, Nat.reduceAdd, fpW_F, fpW_A, fpW_S, fpW_P, FT_id, ST_id, FT_gs, ST_gs, PT_gs, ZT_gs, NT_gs, ET_gs, OT_gs, se_X4_copyFrom, hs, f0, f1, f2, f3, cc0, cc1, cc2, cc3, hb1, hb2, hb3, lt4, cl_eq, fpW_R, fpW_Q, O_h_eq, hPut_eq, va_up_eq, eq_self, reduceIte])
      clear c0 c1 c2 c3 cc0 cc1 cc2 cc3 f0 f1 f2 f3 hb3
      ((repeat' (with_reducible first | apply And.intro | intro _)) <;> simp_all [lt4, oK_eq, FT_id, ST_id, FT_gs, ST_gs, PT_gs, ZT_gs, NT_gs, ET_gs, OT_gs])
    have w2 : Gd E fpW 17 [some (.ref 0), some (.ref (p 0)), some (.int 2)] [] (S.sPerm (va_up S.perm 0 (some (p 1)))) := by
      clear hr w4
      (refine nx1_ok C cut_X6_remember 1000 ?_; simp only [w_X6_remember, ops_eq, xst_eq, call_eq, oK_eq, Option.toList_some, Option.toList_none, List.cons_append, List.nil_append, List.length_cons, List.length_nil, true_and, and_true, Nat.reduceAdd, fpW_F, fpW_A, fpW_S, fpW_P, FT_id, ST_id, FT_gs, ST_gs, PT_gs, ZT_gs, NT_gs, ET_gs, OT_gs, se_X4_copyFrom, hs, f0, f1, f2, f3, cc0, cc1, cc2, cc3, hb1, hb2, hb3, lt4, cl_eq, fpW_R, fpW_Q, O_h_eq, hPut_eq, va_up_eq, eq_self, reduceIte])
      clear c0 c1 c2 c3 cc0 cc1 cc2 cc3 f0 f1 f2 f3 hb3
      ((repeat' (with_reducible first | apply And.intro | intro _)) <;> simp_all [lt4, oK_eq, FT_id, ST_id, FT_gs, ST_gs, PT_gs, ZT_gs, NT_gs, ET_gs, OT_gs])
    have w1 : Gd E fpW 17 [some (.ref 0), some (.ref (p 0)), some (.int 1)] [] S := by
      clear hr w4 w3
      (refine nx1_ok C cut_X6_remember 1000 ?_; simp only [w_X6_remember, ops_eq, xst_eq, call_eq, oK_eq, Option.toList_some, Option.toList_none, List.cons_append, List.nil_append, List.length_cons, List.length_nil, true_and, and_true, Nat.reduceAdd, fpW_F, fpW_A, fpW_S, fpW_P, FT_id, ST_id, FT_gs, ST_gs, PT_gs, ZT_gs, NT_gs, ET_gs, OT_gs, se_X4_copyFrom, hs, f0, f1, f2, f3, c0, c1, c2, c3, hb1, hb2, hb3, lt4, cl_eq, fpW_R, fpW_Q, O_h_eq, hPut_eq, va_up_eq, eq_self, reduceIte])
      clear c0 c1 c2 c3 cc0 cc1 cc2 cc3 f0 f1 f2 f3 hb3
      ((repeat' (with_reducible first | apply And.intro | intro _)) <;> simp_all [lt4, oK_eq, FT_id, ST_id, FT_gs, ST_gs, PT_gs, ZT_gs, NT_gs, ET_gs, OT_gs])
    clear hr w4 w3 w2
    (refine nx_ok C (cuts := cut_X6_remember) 1000 _ _ _ _ ?_; simp only [w_X6_remember, ops_eq, xst_eq, call_eq, oK_eq, Option.toList_some, Option.toList_none, List.cons_append, List.nil_append, List.length_cons, List.length_nil, true_and, and_true, Nat.reduceAdd, fpW_F, fpW_A, fpW_S, fpW_P, FT_id, ST_id, FT_gs, ST_gs, PT_gs, ZT_gs, NT_gs, ET_gs, OT_gs, se_X4_copyFrom, hs, f0, f1, f2, f3, c0, c1, c2, c3, hb1, hb2, hb3, lt4, cl_eq, fpW_R, fpW_Q, O_h_eq, hPut_eq, va_up_eq, eq_self, reduceIte])
    clear c0 c1 c2 c3 f0 f1 f2 f3 hb3 cc0 cc1 cc2 cc3
    ((repeat' (with_reducible first | apply And.intro | intro _)) <;> simp_all [lt4, oK_eq, FT_id, ST_id, FT_gs, ST_gs, PT_gs, ZT_gs, NT_gs, ET_gs, OT_gs])
def sp_X6_remember : Sp FT := fun av S K => match av with
  | [.ref 0] => (S.histOk ∧ S.now.bits) ∧ K (none) (S.remember)
  | _ => False
theorem se_X6_remember  (S : FT) (K : Option Value → FT → Prop) : sp_X6_remember [.ref 0] S K = ((S.histOk ∧ S.now.bits) ∧ K (none) (S.remember)) := rfl
theorem spok_X6_remember : SpOk yX6_remember cX6_remember 3 none 3 fpW sp_X6_remember := by
  intro av S K h
  unfold sp_X6_remember at h
  split at h
  · exact ⟨none, S.remember, trivial, con_X6_remember S  h.1, h.2⟩
  · exact h.elim
def FT.undo (S : FT) : FT := (S.sStates (S.states - 1)).sNow (S.hAt (S.pAt (S.k - 1)))
def cod_X6_undo : List (Nat × Op FT) := [(0, O_aload 0 1), (1, O_getf fpW 6 3), (4, O_if_le 15), (7, O_aload 0 1), (8, O_getf fpW 6 3), (11, O_int 4 1), (12, O_icmp_le 18), (15, O_int (-1000002) 2), (17, O_iret), (18, O_aload 0 1), (19, O_dup), (20, O_getf fpW 6 3), (23, O_int 1 1), (24, O_isub), (25, O_puti fpW_p6_3), (28, O_aload 0 1), (29, O_getf fpW 6 0), (32, O_aload 0 1), (33, O_getf fpW 6 2), (36, O_aload 0 1), (37, O_getf fpW 6 3), (40, O_aald fpW), (41, O_hundo sp_X4_copyFrom), (44, O_aload 0 1), (45, O_getf fpW 6 3), (48, O_iret)]
abbrev cut_X6_undo : List Nat := []
set_option maxRecDepth 100000 in
theorem okc_X6_undo {E : En} (F : Fx E RX6 cX6_undo 1 3) (G : Fr E (some .int)) : CodOk E fpW cod_X6_undo := by
  unfold CodOk cod_X6_undo
  refine List.forall_mem_cons.mpr ⟨ok_aload_n F dX6_undo_0 rfl (by decide), ?_⟩
  refine List.forall_mem_cons.mpr ⟨ok_getf F flX6_238 dX6_undo_1 (by decide), ?_⟩
  refine List.forall_mem_cons.mpr ⟨ok_if_le F dX6_undo_4 (by decide) (by decide) (by decide), ?_⟩
  refine List.forall_mem_cons.mpr ⟨ok_aload_n F dX6_undo_7 rfl (by decide), ?_⟩
  refine List.forall_mem_cons.mpr ⟨ok_getf F flX6_238 dX6_undo_8 (by decide), ?_⟩
  refine List.forall_mem_cons.mpr ⟨ok_iconst F dX6_undo_11 (by decide) (by decide), ?_⟩
  refine List.forall_mem_cons.mpr ⟨ok_icmp_le F dX6_undo_12 (by decide) (by decide) (by decide), ?_⟩
  refine List.forall_mem_cons.mpr ⟨ok_ldc F (ix := 71) (wsHas_mem (l := [Jvm.Cond.constant RX6 71 (-1000002)]) (by decide +kernel) (by simp)) dX6_undo_15 (by decide), ?_⟩
  refine List.forall_mem_cons.mpr ⟨ok_iret F G dX6_undo_17 (by decide), ?_⟩
  refine List.forall_mem_cons.mpr ⟨ok_aload_n F dX6_undo_18 rfl (by decide), ?_⟩
  refine List.forall_mem_cons.mpr ⟨ok_dup F dX6_undo_19 (by decide), ?_⟩
  refine List.forall_mem_cons.mpr ⟨ok_getf F flX6_238 dX6_undo_20 (by decide), ?_⟩
  refine List.forall_mem_cons.mpr ⟨ok_iconst F dX6_undo_23 (by decide) (by decide), ?_⟩
  refine List.forall_mem_cons.mpr ⟨ok_isub F dX6_undo_24 (by decide), ?_⟩
  refine List.forall_mem_cons.mpr ⟨ok_puti F fpW_p6_3_ok (fun _ _ _ h => by cases h; rfl) rfl flX6_238 dX6_undo_25 (by decide), ?_⟩
  refine List.forall_mem_cons.mpr ⟨ok_aload_n F dX6_undo_28 rfl (by decide), ?_⟩
  refine List.forall_mem_cons.mpr ⟨ok_getf F flX6_10 dX6_undo_29 (by decide), ?_⟩
  refine List.forall_mem_cons.mpr ⟨ok_aload_n F dX6_undo_32 rfl (by decide), ?_⟩
  refine List.forall_mem_cons.mpr ⟨ok_getf F flX6_19 dX6_undo_33 (by decide), ?_⟩
  refine List.forall_mem_cons.mpr ⟨ok_aload_n F dX6_undo_36 rfl (by decide), ?_⟩
  refine List.forall_mem_cons.mpr ⟨ok_getf F flX6_238 dX6_undo_37 (by decide), ?_⟩
  refine List.forall_mem_cons.mpr ⟨ok_aald F dX6_undo_40 (by decide), ?_⟩
  refine List.forall_mem_cons.mpr ⟨ok_hundo F spok_X4_copyFrom rcv_stW (by decide +kernel) (by decide) dX6_undo_41 (by decide), ?_⟩
  refine List.forall_mem_cons.mpr ⟨ok_aload_n F dX6_undo_44 rfl (by decide), ?_⟩
  refine List.forall_mem_cons.mpr ⟨ok_getf F flX6_238 dX6_undo_45 (by decide), ?_⟩
  refine List.forall_mem_cons.mpr ⟨ok_iret F G dX6_undo_48 (by decide), ?_⟩
  exact fun _ h => absurd h List.not_mem_nil
set_option maxRecDepth 100000 in
theorem w_X6_undo : (∀ (K : Kt FT) (n : Nat) (L : xL) (st : List Value) (S : FT), nx cod_X6_undo cut_X6_undo K (n + 1) 0 L st S = (O_aload 0 1) (nx cod_X6_undo cut_X6_undo K n) 0 L st S) ∧
  (∀ (K : Kt FT) (n : Nat) (L : xL) (st : List Value) (S : FT), nx cod_X6_undo cut_X6_undo K (n + 1) 1 L st S = (O_getf fpW 6 3) (nx cod_X6_undo cut_X6_undo K n) 1 L st S) ∧
  (∀ (K : Kt FT) (n : Nat) (L : xL) (st : List Value) (S : FT), nx cod_X6_undo cut_X6_undo K (n + 1) 4 L st S = (O_if_le 15) (nx cod_X6_undo cut_X6_undo K n) 4 L st S) ∧
  (∀ (K : Kt FT) (n : Nat) (L : xL) (st : List Value) (S : FT), nx cod_X6_undo cut_X6_undo K (n + 1) 7 L st S = (O_aload 0 1) (nx cod_X6_undo cut_X6_undo K n) 7 L st S) ∧
  (∀ (K : Kt FT) (n : Nat) (L : xL) (st : List Value) (S : FT), nx cod_X6_undo cut_X6_undo K (n + 1) 8 L st S = (O_getf fpW 6 3) (nx cod_X6_undo cut_X6_undo K n) 8 L st S) ∧
  (∀ (K : Kt FT) (n : Nat) (L : xL) (st : List Value) (S : FT), nx cod_X6_undo cut_X6_undo K (n + 1) 11 L st S = (O_int 4 1) (nx cod_X6_undo cut_X6_undo K n) 11 L st S) ∧
  (∀ (K : Kt FT) (n : Nat) (L : xL) (st : List Value) (S : FT), nx cod_X6_undo cut_X6_undo K (n + 1) 12 L st S = (O_icmp_le 18) (nx cod_X6_undo cut_X6_undo K n) 12 L st S) ∧
  (∀ (K : Kt FT) (n : Nat) (L : xL) (st : List Value) (S : FT), nx cod_X6_undo cut_X6_undo K (n + 1) 15 L st S = (O_int (-1000002) 2) (nx cod_X6_undo cut_X6_undo K n) 15 L st S) ∧
  (∀ (K : Kt FT) (n : Nat) (L : xL) (st : List Value) (S : FT), nx cod_X6_undo cut_X6_undo K (n + 1) 17 L st S = (O_iret) (nx cod_X6_undo cut_X6_undo K n) 17 L st S) ∧
  (∀ (K : Kt FT) (n : Nat) (L : xL) (st : List Value) (S : FT), nx cod_X6_undo cut_X6_undo K (n + 1) 18 L st S = (O_aload 0 1) (nx cod_X6_undo cut_X6_undo K n) 18 L st S) ∧
  (∀ (K : Kt FT) (n : Nat) (L : xL) (st : List Value) (S : FT), nx cod_X6_undo cut_X6_undo K (n + 1) 19 L st S = (O_dup) (nx cod_X6_undo cut_X6_undo K n) 19 L st S) ∧
  (∀ (K : Kt FT) (n : Nat) (L : xL) (st : List Value) (S : FT), nx cod_X6_undo cut_X6_undo K (n + 1) 20 L st S = (O_getf fpW 6 3) (nx cod_X6_undo cut_X6_undo K n) 20 L st S) ∧
  (∀ (K : Kt FT) (n : Nat) (L : xL) (st : List Value) (S : FT), nx cod_X6_undo cut_X6_undo K (n + 1) 23 L st S = (O_int 1 1) (nx cod_X6_undo cut_X6_undo K n) 23 L st S) ∧
  (∀ (K : Kt FT) (n : Nat) (L : xL) (st : List Value) (S : FT), nx cod_X6_undo cut_X6_undo K (n + 1) 24 L st S = (O_isub) (nx cod_X6_undo cut_X6_undo K n) 24 L st S) ∧
  (∀ (K : Kt FT) (n : Nat) (L : xL) (st : List Value) (S : FT), nx cod_X6_undo cut_X6_undo K (n + 1) 25 L st S = (O_puti fpW_p6_3) (nx cod_X6_undo cut_X6_undo K n) 25 L st S) ∧
  (∀ (K : Kt FT) (n : Nat) (L : xL) (st : List Value) (S : FT), nx cod_X6_undo cut_X6_undo K (n + 1) 28 L st S = (O_aload 0 1) (nx cod_X6_undo cut_X6_undo K n) 28 L st S) ∧
  (∀ (K : Kt FT) (n : Nat) (L : xL) (st : List Value) (S : FT), nx cod_X6_undo cut_X6_undo K (n + 1) 29 L st S = (O_getf fpW 6 0) (nx cod_X6_undo cut_X6_undo K n) 29 L st S) ∧
  (∀ (K : Kt FT) (n : Nat) (L : xL) (st : List Value) (S : FT), nx cod_X6_undo cut_X6_undo K (n + 1) 32 L st S = (O_aload 0 1) (nx cod_X6_undo cut_X6_undo K n) 32 L st S) ∧
  (∀ (K : Kt FT) (n : Nat) (L : xL) (st : List Value) (S : FT), nx cod_X6_undo cut_X6_undo K (n + 1) 33 L st S = (O_getf fpW 6 2) (nx cod_X6_undo cut_X6_undo K n) 33 L st S) ∧
  (∀ (K : Kt FT) (n : Nat) (L : xL) (st : List Value) (S : FT), nx cod_X6_undo cut_X6_undo K (n + 1) 36 L st S = (O_aload 0 1) (nx cod_X6_undo cut_X6_undo K n) 36 L st S) ∧
  (∀ (K : Kt FT) (n : Nat) (L : xL) (st : List Value) (S : FT), nx cod_X6_undo cut_X6_undo K (n + 1) 37 L st S = (O_getf fpW 6 3) (nx cod_X6_undo cut_X6_undo K n) 37 L st S) ∧
  (∀ (K : Kt FT) (n : Nat) (L : xL) (st : List Value) (S : FT), nx cod_X6_undo cut_X6_undo K (n + 1) 40 L st S = (O_aald fpW) (nx cod_X6_undo cut_X6_undo K n) 40 L st S) ∧
  (∀ (K : Kt FT) (n : Nat) (L : xL) (st : List Value) (S : FT), nx cod_X6_undo cut_X6_undo K (n + 1) 41 L st S = (O_hundo sp_X4_copyFrom) (nx cod_X6_undo cut_X6_undo K n) 41 L st S) ∧
  (∀ (K : Kt FT) (n : Nat) (L : xL) (st : List Value) (S : FT), nx cod_X6_undo cut_X6_undo K (n + 1) 44 L st S = (O_aload 0 1) (nx cod_X6_undo cut_X6_undo K n) 44 L st S) ∧
  (∀ (K : Kt FT) (n : Nat) (L : xL) (st : List Value) (S : FT), nx cod_X6_undo cut_X6_undo K (n + 1) 45 L st S = (O_getf fpW 6 3) (nx cod_X6_undo cut_X6_undo K n) 45 L st S) ∧
  (∀ (K : Kt FT) (n : Nat) (L : xL) (st : List Value) (S : FT), nx cod_X6_undo cut_X6_undo K (n + 1) 48 L st S = (O_iret) (nx cod_X6_undo cut_X6_undo K n) 48 L st S) ∧
  (∀ (K : Kt FT) (n : Nat) (L : xL) (st : List Value) (S : FT), nx cod_X6_undo cut_X6_undo K (n + 1) 100000 L st S = K 100000 L st S) := by
  repeat' apply And.intro
  all_goals (intros; rfl)
set_option maxRecDepth 100000 in
theorem mk_X6_undo {P P' : FT} {r : Option Value}  (body : ∀ E : En, CodOk E fpW cod_X6_undo → Gd E fpW 100000 [] r.toList P' → Gd E fpW 0 [some (.ref 0)] [] P) : Con yX6_undo cX6_undo 1 (some .int) 3 fpW [.ref 0] P r P' :=
  Con.of (by decide) rfl rfl (Nat.le_of_ble_eq_true rfl) (fun E F G hr => body E (okc_X6_undo F G) hr)
set_option maxRecDepth 10000 in
theorem con_X6_undo (S : FT)  (hp : S.histOk ∧ S.h0.bits ∧ S.h1.bits ∧ S.h2.bits ∧ S.h3.bits) : Con yX6_undo cX6_undo 1 (some .int) 3 fpW [.ref 0] S (some (.int (if S.states = 0 then -1000002 else S.states - 1))) (if S.states = 0 then S else S.undo) := by
  refine mk_X6_undo (fun E C hr => ?_)
  obtain ⟨⟨⟨p, hp1, hp2⟩, hk1, hk2, hk3⟩, hb⟩ := hp
  have f0 := hp1 0 (by decide)
  have f1 := hp1 1 (by decide)
  have f2 := hp1 2 (by decide)
  have f3 := hp1 3 (by decide)
  have hb0 : ∀ k, (S.hAt k).bits := by
    intro k
    unfold FT.hAt
    repeat' split
    · exact hb.1
    · exact hb.2.1
    · exact hb.2.2.1
    · exact hb.2.2.2
  have hb1 := fun k => (hb0 k).1
  have hb2 := fun k => (hb0 k).2.1
  have hb3 := fun k => (hb0 k).2.2
  unfold PT.bits at hb1
  unfold ZT.bits at hb2
  have hs : S.states = 0 ∨ S.states = 1 ∨ S.states = 2 ∨ S.states = 3 ∨ S.states = 4 := by
    have : S.k = 0 ∨ S.k = 1 ∨ S.k = 2 ∨ S.k = 3 ∨ S.k = 4 := by omega
    rcases this with q | q | q | q | q <;> rw [q] at hk1 <;> rw [hk1] <;> decide
  clear hk1 hk2 hk3 hp1 hp2 hb
  unfold FT.undo FT.pAt FT.k at hr
  have hl : (¬ (0 : Int32) < 0) ∧ ((0 : Int32) < 1) ∧ ((0 : Int32) < 2) ∧ ((0 : Int32) < 3) ∧ ((0 : Int32) < 4) ∧ (¬ (4 : Int32) < 1) ∧ (¬ (4 : Int32) < 2) ∧ (¬ (4 : Int32) < 3) ∧ (¬ (1 : Int32) = 0) ∧ (¬ (2 : Int32) = 0) ∧ (¬ (3 : Int32) = 0) ∧ (¬ (4 : Int32) = 0) := by decide
  rcases hs with hs | hs | hs | hs | hs
  · (refine nx_ok C (cuts := cut_X6_undo) 1000 _ _ _ _ ?_; simp only [w_X6_undo, ops_eq, xst_eq, call_eq, oK_eq, Option.toList_some, Option.toList_none, List.cons_append, List.nil_append, List.length_cons, List.length_nil, true_and, and_true, Nat.reduceAdd, fpW_F, fpW_A, fpW_S, fpW_P, FT_id, ST_id, FT_gs, ST_gs, PT_gs, ZT_gs, NT_gs, ET_gs, OT_gs, se_X4_copyFrom, hs, f0, f1, f2, f3, lt4, hl, cl_eq, fpW_R, fpW_Q, O_h_eq, hPut_eq, va_up_eq])
    ((repeat' (with_reducible first | apply And.intro | intro _)) <;> simp_all [lt4, hl, cl_eq, hPut_eq, va_up_eq, FT_id, ST_id, FT_gs, ST_gs, PT_gs, ZT_gs, NT_gs, ET_gs, OT_gs])
  · (refine nx_ok C (cuts := cut_X6_undo) 1000 _ _ _ _ ?_; simp only [w_X6_undo, ops_eq, xst_eq, call_eq, oK_eq, Option.toList_some, Option.toList_none, List.cons_append, List.nil_append, List.length_cons, List.length_nil, true_and, and_true, Nat.reduceAdd, fpW_F, fpW_A, fpW_S, fpW_P, FT_id, ST_id, FT_gs, ST_gs, PT_gs, ZT_gs, NT_gs, ET_gs, OT_gs, se_X4_copyFrom, hs, f0, f1, f2, f3, lt4, hl, cl_eq, fpW_R, fpW_Q, O_h_eq, hPut_eq, va_up_eq])
    ((repeat' (with_reducible first | apply And.intro | intro _)) <;> simp_all [lt4, hl, cl_eq, hPut_eq, va_up_eq, FT_id, ST_id, FT_gs, ST_gs, PT_gs, ZT_gs, NT_gs, ET_gs, OT_gs])
  · (refine nx_ok C (cuts := cut_X6_undo) 1000 _ _ _ _ ?_; simp only [w_X6_undo, ops_eq, xst_eq, call_eq, oK_eq, Option.toList_some, Option.toList_none, List.cons_append, List.nil_append, List.length_cons, List.length_nil, true_and, and_true, Nat.reduceAdd, fpW_F, fpW_A, fpW_S, fpW_P, FT_id, ST_id, FT_gs, ST_gs, PT_gs, ZT_gs, NT_gs, ET_gs, OT_gs, se_X4_copyFrom, hs, f0, f1, f2, f3, lt4, hl, cl_eq, fpW_R, fpW_Q, O_h_eq, hPut_eq, va_up_eq])
    ((repeat' (with_reducible first | apply And.intro | intro _)) <;> simp_all [lt4, hl, cl_eq, hPut_eq, va_up_eq, FT_id, ST_id, FT_gs, ST_gs, PT_gs, ZT_gs, NT_gs, ET_gs, OT_gs])
  · (refine nx_ok C (cuts := cut_X6_undo) 1000 _ _ _ _ ?_; simp only [w_X6_undo, ops_eq, xst_eq, call_eq, oK_eq, Option.toList_some, Option.toList_none, List.cons_append, List.nil_append, List.length_cons, List.length_nil, true_and, and_true, Nat.reduceAdd, fpW_F, fpW_A, fpW_S, fpW_P, FT_id, ST_id, FT_gs, ST_gs, PT_gs, ZT_gs, NT_gs, ET_gs, OT_gs, se_X4_copyFrom, hs, f0, f1, f2, f3, lt4, hl, cl_eq, fpW_R, fpW_Q, O_h_eq, hPut_eq, va_up_eq])
    ((repeat' (with_reducible first | apply And.intro | intro _)) <;> simp_all [lt4, hl, cl_eq, hPut_eq, va_up_eq, FT_id, ST_id, FT_gs, ST_gs, PT_gs, ZT_gs, NT_gs, ET_gs, OT_gs])
  · (refine nx_ok C (cuts := cut_X6_undo) 1000 _ _ _ _ ?_; simp only [w_X6_undo, ops_eq, xst_eq, call_eq, oK_eq, Option.toList_some, Option.toList_none, List.cons_append, List.nil_append, List.length_cons, List.length_nil, true_and, and_true, Nat.reduceAdd, fpW_F, fpW_A, fpW_S, fpW_P, FT_id, ST_id, FT_gs, ST_gs, PT_gs, ZT_gs, NT_gs, ET_gs, OT_gs, se_X4_copyFrom, hs, f0, f1, f2, f3, lt4, hl, cl_eq, fpW_R, fpW_Q, O_h_eq, hPut_eq, va_up_eq])
    ((repeat' (with_reducible first | apply And.intro | intro _)) <;> simp_all [lt4, hl, cl_eq, hPut_eq, va_up_eq, FT_id, ST_id, FT_gs, ST_gs, PT_gs, ZT_gs, NT_gs, ET_gs, OT_gs])
def sp_X6_undo : Sp FT := fun av S K => match av with
  | [.ref 0] => (S.histOk ∧ S.h0.bits ∧ S.h1.bits ∧ S.h2.bits ∧ S.h3.bits) ∧ K (some (.int (if S.states = 0 then -1000002 else S.states - 1))) (if S.states = 0 then S else S.undo)
  | _ => False
theorem se_X6_undo  (S : FT) (K : Option Value → FT → Prop) : sp_X6_undo [.ref 0] S K = ((S.histOk ∧ S.h0.bits ∧ S.h1.bits ∧ S.h2.bits ∧ S.h3.bits) ∧ K (some (.int (if S.states = 0 then -1000002 else S.states - 1))) (if S.states = 0 then S else S.undo)) := rfl
theorem spok_X6_undo : SpOk yX6_undo cX6_undo 1 (some .int) 3 fpW sp_X6_undo := by
  intro av S K h
  unfold sp_X6_undo at h
  split at h
  · exact ⟨some (.int (if S.states = 0 then -1000002 else S.states - 1)), if S.states = 0 then S else S.undo, trivial, con_X6_undo S  h.1, h.2⟩
  · exact h.elim
