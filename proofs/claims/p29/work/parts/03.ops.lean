/-! ===== the operations, and that each tells rightly what its instruction does ===== -/
section OPS
variable {σ : Type} {E : En} {own : String} {cc : ByteArray} {maxL d pc : Nat} {toW : σ → xW}
/-- an instruction of pure kind: no cell changes; its row turns the goal into the next one -/
theorem OpOk.mk {op : Op σ} (hpc : pc < 100000)
    (h : ∀ {p : Program} {l : Launch} {e : Jvm.Env} {R : Room} {s : State} {m : MethodId} {args : Array Value} {below : List Frame} {meth : Method} {c : Code} {Qc : Array Value → State → Outcome → State → Prop} {Q : State → Prop} {cs : Nat × Nat} {A : Nat → Prop} {nL : Nat} {D : xD} {ad : Nat → Nat},
      E = (p, l, e, R, s, m, args, below, meth, c, Qc, Q, cs, A, nL, D, ad) →
      ∀ (K : Kt σ) (L : xL) (st : List Value) (S : σ), op K pc L st S → (∀ pc' L' st' S', K pc' L' st' S' → Gd E toW pc' L' st' S') →
      ∀ (H : Heap) (locs : List Loc), va_P (D.1, D.2.1) classes (xw D ad (toW S)) H → xap A ad (toW S).length → va_S A s.heap H locs → L.length = nL → xno L → ∀ ls : Array Slot, lv_has ls nL (lvp ad 0 L) → W p l e R s m args below meth c H locs cs.1 cs.2 Q (F0 m pc ls (st.map (xv ad)))) : OpOk E toW pc op := by
  intro K L st S ho hk
  obtain ⟨p, l, e, R, s, m, args, below, meth, c, Qc, Q, cs, A, nL, D, ad⟩ := E
  intro H locs hP hap hS
  exact ⟨fun q => by omega, fun _ hL hn ls hl => h rfl K L st S ho hk H locs hP hap hS hL hn ls hl⟩
/-- the goal behind an instruction -/
theorem Gd.use {p : Program} {l : Launch} {e : Jvm.Env} {R : Room} {s : State} {m : MethodId} {args : Array Value} {below : List Frame} {meth : Method} {c : Code} {Qc : Array Value → State → Outcome → State → Prop} {Q : State → Prop} {cs : Nat × Nat} {A : Nat → Prop} {nL : Nat} {D : xD} {ad : Nat → Nat} {pc : Nat} {L : xL} {st : List Value} {S : σ}
    (h : Gd (p, l, e, R, s, m, args, below, meth, c, Qc, Q, cs, A, nL, D, ad) toW pc L st S) (hpc : pc < 100000) {H : Heap} {locs : List Loc} (hP : va_P (D.1, D.2.1) classes (xw D ad (toW S)) H) (hap : xap A ad (toW S).length) (hS : va_S A s.heap H locs) (hL : L.length = nL) (hn : xno L) {ls : Array Slot} (hl : lv_has ls nL (lvp ad 0 L)) :
    W p l e R s m args below meth c H locs cs.1 cs.2 Q (F0 m pc ls (st.map (xv ad))) := (h H locs hP hap hS).2 (by omega) hL hn ls hl
-- constants
def O_int (v : Int32) (len : Nat) : Op σ := fun K pc L st S => K (pc + len) L (.int v :: st) S
def O_long (v : Int64) (len : Nat) : Op σ := fun K pc L st S => K (pc + len) L (.long v :: st) S
theorem ok_iconst (F : Fx E own cc maxL d) {n : Int} {v : Int32} (hd : decode cc pc = .ok (.iconst n, 1)) (hv : Int32.ofInt n = v) (hpc : pc + 1 < 100000) : OpOk E toW pc (O_int v 1) := by
  refine OpOk.mk (by omega) fun hE K L st S ho hk H locs hP hap hS hL hn ls hl => ?_
  subst hE
  exact lv_iconst F.1 F.2.1 hd hv ((hk _ _ _ _ ho).use hpc hP hap hS hL hn hl)
theorem ok_bipush (F : Fx E own cc maxL d) {n : Int} {v : Int32} (hd : decode cc pc = .ok (.bipush n, 2)) (hv : (Int8.ofInt n).toInt32 = v) (hpc : pc + 2 < 100000) : OpOk E toW pc (O_int v 2) := by
  refine OpOk.mk (by omega) fun hE K L st S ho hk H locs hP hap hS hL hn ls hl => ?_
  subst hE
  exact lv_bipush F.1 F.2.1 hd hv ((hk _ _ _ _ ho).use hpc hP hap hS hL hn hl)
theorem ok_sipush (F : Fx E own cc maxL d) {n : Int} {v : Int32} (hd : decode cc pc = .ok (.sipush n, 3)) (hv : (Int16.ofInt n).toInt32 = v) (hpc : pc + 3 < 100000) : OpOk E toW pc (O_int v 3) := by
  refine OpOk.mk (by omega) fun hE K L st S ho hk H locs hP hap hS hL hn ls hl => ?_
  subst hE
  exact lv_sipush F.1 F.2.1 hd hv ((hk _ _ _ _ ho).use hpc hP hap hS hL hn hl)
theorem ok_ldc (F : Fx E own cc maxL d) {ix : Nat} {v : Int32} (hw : Jvm.Cond.constant own ix v ∈ WS) (hd : decode cc pc = .ok (.ldc ix, 2)) (hpc : pc + 2 < 100000) : OpOk E toW pc (O_int v 2) := by
  refine OpOk.mk (by omega) fun hE K L st S ho hk H locs hP hap hS hL hn ls hl => ?_
  subst hE
  exact lv_ldc F.1 F.2.1 F.2.2.2.2.1 (F.2.2.2.2.2.1 _ hw) hd ((hk _ _ _ _ ho).use hpc hP hap hS hL hn hl)
theorem ok_ldc2 (F : Fx E own cc maxL d) {ix : Nat} {v : Int64} (hw : Jvm.Cond.constantLong own ix v ∈ WS) (hd : decode cc pc = .ok (.ldc2_w ix, 3)) (hpc : pc + 3 < 100000) : OpOk E toW pc (O_long v 3) := by
  refine OpOk.mk (by omega) fun hE K L st S ho hk H locs hP hap hS hL hn ls hl => ?_
  subst hE
  exact lv_ldc2 F.1 F.2.1 F.2.2.2.2.1 (F.2.2.2.2.2.1 _ hw) hd ((hk _ _ _ _ ho).use hpc hP hap hS hL hn hl)
theorem ok_lconst (F : Fx E own cc maxL d) {n : Fin 2} {v : Int64} (hd : decode cc pc = .ok (.lconst n, 1)) (hv : Int64.ofNat (n : Nat) = v) (hpc : pc + 1 < 100000) : OpOk E toW pc (O_long v 1) := by
  refine OpOk.mk (by omega) fun hE K L st S ho hk H locs hP hap hS hL hn ls hl => ?_
  subst hE
  exact lv_lconst F.1 F.2.1 hd hv ((hk _ _ _ _ ho).use hpc hP hap hS hL hn hl)
-- locals
def O_iload (i len : Nat) : Op σ := fun K pc L st S => match L[i]? with
  | some (some (.int x)) => K (pc + len) L (.int x :: st) S
  | _ => False
def O_aload (i len : Nat) : Op σ := fun K pc L st S => match L[i]? with
  | some (some (.ref x)) => K (pc + len) L (.ref x :: st) S
  | _ => False
def O_lload (i len : Nat) : Op σ := fun K pc L st S => match L[i]? with
  | some (some (.long x)) => K (pc + len) L (.long x :: st) S
  | _ => False
theorem ok_iload_n (F : Fx E own cc maxL d) {k : Fin 4} {i : Nat} (hd : decode cc pc = .ok (.iload_n k, 1)) (hi : (k : Nat) = i) (hpc : pc + 1 < 100000) : OpOk E toW pc (O_iload i 1) := by
  refine OpOk.mk (by omega) fun hE K L st S ho hk H locs hP hap hS hL hn ls hl => ?_
  subst hE
  unfold O_iload at ho
  split at ho
  · rename_i x hx
    exact lv_iload_n F.1 F.2.1 hd hi (lvp_at hl hx) ((hk _ _ _ _ ho).use hpc hP hap hS hL hn hl)
  · exact ho.elim
theorem ok_iload (F : Fx E own cc maxL d) {i : Nat} (hd : decode cc pc = .ok (.iload i, 2)) (hpc : pc + 2 < 100000) : OpOk E toW pc (O_iload i 2) := by
  refine OpOk.mk (by omega) fun hE K L st S ho hk H locs hP hap hS hL hn ls hl => ?_
  subst hE
  unfold O_iload at ho
  split at ho
  · rename_i x hx
    exact lv_iload F.1 F.2.1 hd (lvp_at hl hx) ((hk _ _ _ _ ho).use hpc hP hap hS hL hn hl)
  · exact ho.elim
theorem ok_aload_n (F : Fx E own cc maxL d) {k : Fin 4} {i : Nat} (hd : decode cc pc = .ok (.aload_n k, 1)) (hi : (k : Nat) = i) (hpc : pc + 1 < 100000) : OpOk E toW pc (O_aload i 1) := by
  refine OpOk.mk (by omega) fun hE K L st S ho hk H locs hP hap hS hL hn ls hl => ?_
  subst hE
  unfold O_aload at ho
  split at ho
  · rename_i x hx
    exact lv_aload_n F.1 F.2.1 hd hi (lvp_at hl hx) ((hk _ _ _ _ ho).use hpc hP hap hS hL hn hl)
  · exact ho.elim
theorem ok_aload (F : Fx E own cc maxL d) {i : Nat} (hd : decode cc pc = .ok (.aload i, 2)) (hpc : pc + 2 < 100000) : OpOk E toW pc (O_aload i 2) := by
  refine OpOk.mk (by omega) fun hE K L st S ho hk H locs hP hap hS hL hn ls hl => ?_
  subst hE
  unfold O_aload at ho
  split at ho
  · rename_i x hx
    exact lv_aload F.1 F.2.1 hd (lvp_at hl hx) ((hk _ _ _ _ ho).use hpc hP hap hS hL hn hl)
  · exact ho.elim
theorem ok_lload_n (F : Fx E own cc maxL d) {k : Fin 4} {i : Nat} (hd : decode cc pc = .ok (.lload_n k, 1)) (hi : (k : Nat) = i) (hpc : pc + 1 < 100000) : OpOk E toW pc (O_lload i 1) := by
  refine OpOk.mk (by omega) fun hE K L st S ho hk H locs hP hap hS hL hn ls hl => ?_
  subst hE
  unfold O_lload at ho
  split at ho
  · rename_i x hx
    exact lv_lload_n F.1 F.2.1 hd hi (lvp_at hl hx) ((hk _ _ _ _ ho).use hpc hP hap hS hL hn hl)
  · exact ho.elim
theorem ok_lload (F : Fx E own cc maxL d) {i : Nat} (hd : decode cc pc = .ok (.lload i, 2)) (hpc : pc + 2 < 100000) : OpOk E toW pc (O_lload i 2) := by
  refine OpOk.mk (by omega) fun hE K L st S ho hk H locs hP hap hS hL hn ls hl => ?_
  subst hE
  unfold O_lload at ho
  split at ho
  · rename_i x hx
    exact lv_lload F.1 F.2.1 hd (lvp_at hl hx) ((hk _ _ _ _ ho).use hpc hP hap hS hL hn hl)
  · exact ho.elim
def O_istore (i len : Nat) : Op σ := fun K pc L st S => match st with
  | .int x :: r => K (pc + len) (xst1 L i (.int x)) r S
  | _ => False
def O_astore (i len : Nat) : Op σ := fun K pc L st S => match st with
  | .ref x :: r => K (pc + len) (xst1 L i (.ref x)) r S
  | _ => False
def O_lstore (i len : Nat) : Op σ := fun K pc L st S => match st with
  | .long x :: r => K (pc + len) (xst2 L i (.long x)) r S
  | _ => False
def O_iinc (i : Nat) (v : Int32) : Op σ := fun K pc L st S => match L[i]? with
  | some (some (.int x)) => K (pc + 3) (xst1 L i (.int (x + v))) st S
  | _ => False
theorem ok_istore_n (F : Fx E own cc maxL d) {k : Fin 4} {i : Nat} (hd : decode cc pc = .ok (.istore_n k, 1)) (hi : (k : Nat) = i) (hm : i < maxL) (hpc : pc + 1 < 100000) : OpOk E toW pc (O_istore i 1) := by
  refine OpOk.mk (by omega) fun hE K L st S ho hk H locs hP hap hS hL hn ls hl => ?_
  subst hE
  unfold O_istore at ho
  split at ho
  · refine lv_istore_n F.1 F.2.1 hd hi hl (by rw [F.2.2.2.1]; exact hm) rfl (fun ls' hl' => (hk _ _ _ _ ho).use hpc hP hap hS (by rw [xst1_len]; exact hL) (xno_st1 hn _ (fun h => by cases h)) (lvp_st1 hn hl'))
  · exact ho.elim
theorem ok_istore (F : Fx E own cc maxL d) {i : Nat} (hd : decode cc pc = .ok (.istore i, 2)) (hm : i < maxL) (hpc : pc + 2 < 100000) : OpOk E toW pc (O_istore i 2) := by
  refine OpOk.mk (by omega) fun hE K L st S ho hk H locs hP hap hS hL hn ls hl => ?_
  subst hE
  unfold O_istore at ho
  split at ho
  · refine lv_istore F.1 F.2.1 hd hl (by rw [F.2.2.2.1]; exact hm) rfl (fun ls' hl' => (hk _ _ _ _ ho).use hpc hP hap hS (by rw [xst1_len]; exact hL) (xno_st1 hn _ (fun h => by cases h)) (lvp_st1 hn hl'))
  · exact ho.elim
theorem ok_astore_n (F : Fx E own cc maxL d) {k : Fin 4} {i : Nat} (hd : decode cc pc = .ok (.astore_n k, 1)) (hi : (k : Nat) = i) (hm : i < maxL) (hpc : pc + 1 < 100000) : OpOk E toW pc (O_astore i 1) := by
  refine OpOk.mk (by omega) fun hE K L st S ho hk H locs hP hap hS hL hn ls hl => ?_
  subst hE
  unfold O_astore at ho
  split at ho
  · refine lv_astore_n F.1 F.2.1 hd hi hl (by rw [F.2.2.2.1]; exact hm) rfl (fun ls' hl' => (hk _ _ _ _ ho).use hpc hP hap hS (by rw [xst1_len]; exact hL) (xno_st1 hn _ (fun h => by cases h)) (lvp_st1 (v := .ref _) hn hl'))
  · exact ho.elim
theorem ok_lstore_n (F : Fx E own cc maxL d) {k : Fin 4} {i : Nat} (hd : decode cc pc = .ok (.lstore_n k, 1)) (hi : (k : Nat) = i) (hm : i + 1 < maxL) (hpc : pc + 1 < 100000) : OpOk E toW pc (O_lstore i 1) := by
  refine OpOk.mk (by omega) fun hE K L st S ho hk H locs hP hap hS hL hn ls hl => ?_
  subst hE
  unfold O_lstore at ho
  split at ho
  · refine lv_lstore_n F.1 F.2.1 hd hi hl (by rw [F.2.2.2.1]; exact hm) rfl (fun ls' hl' => (hk _ _ _ _ ho).use hpc hP hap hS (by rw [xst2_len]; exact hL) (xno_st2 hn _ (fun _ => ⟨_, rfl⟩)) (lvp_st2 hn hl'))
  · exact ho.elim
theorem ok_lstore (F : Fx E own cc maxL d) {i : Nat} (hd : decode cc pc = .ok (.lstore i, 2)) (hm : i + 1 < maxL) (hpc : pc + 2 < 100000) : OpOk E toW pc (O_lstore i 2) := by
  refine OpOk.mk (by omega) fun hE K L st S ho hk H locs hP hap hS hL hn ls hl => ?_
  subst hE
  unfold O_lstore at ho
  split at ho
  · refine lv_lstore F.1 F.2.1 hd hl (by rw [F.2.2.2.1]; exact hm) rfl (fun ls' hl' => (hk _ _ _ _ ho).use hpc hP hap hS (by rw [xst2_len]; exact hL) (xno_st2 hn _ (fun _ => ⟨_, rfl⟩)) (lvp_st2 hn hl'))
  · exact ho.elim
theorem ok_iinc (F : Fx E own cc maxL d) {i : Nat} {n : Int} {v : Int32} (hd : decode cc pc = .ok (.iinc i n, 3)) (hv : Int32.ofInt n = v) (hm : i < maxL) (hpc : pc + 3 < 100000) : OpOk E toW pc (O_iinc i v) := by
  refine OpOk.mk (by omega) fun hE K L st S ho hk H locs hP hap hS hL hn ls hl => ?_
  subst hE
  unfold O_iinc at ho
  split at ho
  · rename_i x hx
    obtain ⟨k, hk2⟩ := List.getElem?_of_mem ((lvp_mem (ad := _) L 0 i _).mpr ⟨i, .int x, by omega, hx, rfl⟩)
    refine lv_iinc F.1 F.2.1 hd hl hk2 (by rw [hv]) (by rw [F.2.2.2.1]; exact hm) rfl (fun ls' hl' => (hk _ _ _ _ ho).use hpc hP hap hS (by rw [xst1_len]; exact hL) (xno_st1 hn _ (fun h => by cases h)) (lvp_st1 (v := .int _) hn hl'))
  · exact ho.elim
-- the stack
def O_dup : Op σ := fun K pc L st S => match st with
  | .int x :: r => K (pc + 1) L (.int x :: .int x :: r) S
  | .ref x :: r => K (pc + 1) L (.ref x :: .ref x :: r) S
  | _ => False
def O_dup2 : Op σ := fun K pc L st S => match st with
  | .int x :: .ref y :: r => K (pc + 1) L (.int x :: .ref y :: .int x :: .ref y :: r) S
  | _ => False
def O_pop : Op σ := fun K pc L st S => match st with
  | .int _ :: r => K (pc + 1) L r S
  | _ => False
theorem ok_dup (F : Fx E own cc maxL d) (hd : decode cc pc = .ok (.dup, 1)) (hpc : pc + 1 < 100000) : OpOk E toW pc O_dup := by
  refine OpOk.mk (by omega) fun hE K L st S ho hk H locs hP hap hS hL hn ls hl => ?_
  subst hE
  unfold O_dup at ho
  split at ho
  · exact lv_dup F.1 F.2.1 hd rfl ((hk _ _ _ _ ho).use hpc hP hap hS hL hn hl)
  · exact lv_dup F.1 F.2.1 hd rfl ((hk _ _ _ _ ho).use hpc hP hap hS hL hn hl)
  · exact ho.elim
theorem ok_dup2 (F : Fx E own cc maxL d) (hd : decode cc pc = .ok (.dup2, 1)) (hpc : pc + 1 < 100000) : OpOk E toW pc O_dup2 := by
  refine OpOk.mk (by omega) fun hE K L st S ho hk H locs hP hap hS hL hn ls hl => ?_
  subst hE
  unfold O_dup2 at ho
  split at ho
  · exact lv_dup2_11 F.1 F.2.1 hd rfl rfl ((hk _ _ _ _ ho).use hpc hP hap hS hL hn hl)
  · exact ho.elim
theorem ok_pop (F : Fx E own cc maxL d) (hd : decode cc pc = .ok (.pop, 1)) (hpc : pc + 1 < 100000) : OpOk E toW pc O_pop := by
  refine OpOk.mk (by omega) fun hE K L st S ho hk H locs hP hap hS hL hn ls hl => ?_
  subst hE
  unfold O_pop at ho
  split at ho
  · exact lv_pop F.1 F.2.1 hd rfl ((hk _ _ _ _ ho).use hpc hP hap hS hL hn hl)
  · exact ho.elim
-- goto, null tests
def O_goto (tgt : Nat) : Op σ := fun K _ L st S => K tgt L st S
theorem ok_goto (F : Fx E own cc maxL d) {off : Int} {tgt : Nat} (hd : decode cc pc = .ok (.goto off, 3)) (ht : (pc : Int) + off = (tgt : Int)) (hpc : pc < 100000) (htg : tgt < 100000) : OpOk E toW pc (O_goto tgt) := by
  refine OpOk.mk hpc fun hE K L st S ho hk H locs hP hap hS hL hn ls hl => ?_
  subst hE
  exact lv_goto F.1 F.2.1 hd ht ((hk _ _ _ _ ho).use htg hP hap hS hL hn hl)
def O_ifnonnull (tgt : Nat) : Op σ := fun K _ L st S => match st with
  | .ref _ :: r => K tgt L r S
  | _ => False
def O_ifnull : Op σ := fun K pc L st S => match st with
  | .ref _ :: r => K (pc + 3) L r S
  | _ => False
theorem ok_ifnonnull (F : Fx E own cc maxL d) {off : Int} {tgt : Nat} (hd : decode cc pc = .ok (.ifnonnull off, 3)) (ht : (pc : Int) + off = (tgt : Int)) (hpc : pc < 100000) (htg : tgt < 100000) : OpOk E toW pc (O_ifnonnull tgt) := by
  refine OpOk.mk hpc fun hE K L st S ho hk H locs hP hap hS hL hn ls hl => ?_
  subst hE
  unfold O_ifnonnull at ho
  split at ho
  · exact lv_ifnonnull F.1 F.2.1 hd ht ((hk _ _ _ _ ho).use htg hP hap hS hL hn hl)
  · exact ho.elim
theorem ok_ifnull (F : Fx E own cc maxL d) {off : Int} (hd : decode cc pc = .ok (.ifnull off, 3)) (hpc : pc + 3 < 100000) : OpOk E toW pc O_ifnull := by
  refine OpOk.mk (by omega) fun hE K L st S ho hk H locs hP hap hS hL hn ls hl => ?_
  subst hE
  unfold O_ifnull at ho
  split at ho
  · exact lv_ifnull F.1 F.2.1 hd ((hk _ _ _ _ ho).use hpc hP hap hS hL hn hl)
  · exact ho.elim
-- conversions, lcmp
def O_i2l : Op σ := fun K pc L st S => match st with
  | .int x :: r => K (pc + 1) L (.long x.toInt64 :: r) S
  | _ => False
def O_l2i : Op σ := fun K pc L st S => match st with
  | .long x :: r => K (pc + 1) L (.int x.toInt32 :: r) S
  | _ => False
def O_i2c : Op σ := fun K pc L st S => match st with
  | .int x :: r => K (pc + 1) L (.int (x.toUInt32 % 65536).toInt32 :: r) S
  | _ => False
def O_ineg : Op σ := fun K pc L st S => match st with
  | .int x :: r => K (pc + 1) L (.int (-x) :: r) S
  | _ => False
def O_lcmp : Op σ := fun K pc L st S => match st with
  | .long y :: .long x :: r => K (pc + 1) L (.int (lg_cmp x y) :: r) S
  | _ => False
theorem ok_i2l (F : Fx E own cc maxL d) (hd : decode cc pc = .ok (.i2l, 1)) (hpc : pc + 1 < 100000) : OpOk E toW pc O_i2l := by
  refine OpOk.mk (by omega) fun hE K L st S ho hk H locs hP hap hS hL hn ls hl => ?_
  subst hE
  unfold O_i2l at ho
  split at ho
  · exact lv_i2l F.1 F.2.1 hd rfl ((hk _ _ _ _ ho).use hpc hP hap hS hL hn hl)
  · exact ho.elim
theorem ok_l2i (F : Fx E own cc maxL d) (hd : decode cc pc = .ok (.l2i, 1)) (hpc : pc + 1 < 100000) : OpOk E toW pc O_l2i := by
  refine OpOk.mk (by omega) fun hE K L st S ho hk H locs hP hap hS hL hn ls hl => ?_
  subst hE
  unfold O_l2i at ho
  split at ho
  · exact lv_l2i F.1 F.2.1 hd rfl ((hk _ _ _ _ ho).use hpc hP hap hS hL hn hl)
  · exact ho.elim
theorem ok_i2c (F : Fx E own cc maxL d) (hd : decode cc pc = .ok (.i2c, 1)) (hpc : pc + 1 < 100000) : OpOk E toW pc O_i2c := by
  refine OpOk.mk (by omega) fun hE K L st S ho hk H locs hP hap hS hL hn ls hl => ?_
  subst hE
  unfold O_i2c at ho
  split at ho
  · exact lv_i2c F.1 F.2.1 hd rfl ((hk _ _ _ _ ho).use hpc hP hap hS hL hn hl)
  · exact ho.elim
theorem ok_ineg (F : Fx E own cc maxL d) (hd : decode cc pc = .ok (.ineg, 1)) (hpc : pc + 1 < 100000) : OpOk E toW pc O_ineg := by
  refine OpOk.mk (by omega) fun hE K L st S ho hk H locs hP hap hS hL hn ls hl => ?_
  subst hE
  unfold O_ineg at ho
  split at ho
  · exact lv_ineg F.1 F.2.1 hd ((hk _ _ _ _ ho).use hpc hP hap hS hL hn hl)
  · exact ho.elim
theorem ok_lcmp (F : Fx E own cc maxL d) (hd : decode cc pc = .ok (.lcmp, 1)) (hpc : pc + 1 < 100000) : OpOk E toW pc O_lcmp := by
  refine OpOk.mk (by omega) fun hE K L st S ho hk H locs hP hap hS hL hn ls hl => ?_
  subst hE
  unfold O_lcmp at ho
  split at ho
  · exact W.lcmp F.1 F.2.1 hd ((hk _ _ _ _ ho).use hpc hP hap hS hL hn hl)
  · exact ho.elim
-- arithmetic
def O_iadd : Op σ := fun K pc L st S => match st with
  | .int y :: .int x :: r => K (pc + 1) L (.int (x + y) :: r) S
  | _ => False
theorem ok_iadd (F : Fx E own cc maxL d) (hd : decode cc pc = .ok (.iadd, 1)) (hpc : pc + 1 < 100000) : OpOk E toW pc O_iadd := by
  refine OpOk.mk (by omega) fun hE K L st S ho hk H locs hP hap hS hL hn ls hl => ?_
  subst hE
  unfold O_iadd at ho
  split at ho
  · exact lv_iadd F.1 F.2.1 hd ((hk _ _ _ _ ho).use hpc hP hap hS hL hn hl)
  · exact ho.elim
def O_isub : Op σ := fun K pc L st S => match st with
  | .int y :: .int x :: r => K (pc + 1) L (.int (x - y) :: r) S
  | _ => False
theorem ok_isub (F : Fx E own cc maxL d) (hd : decode cc pc = .ok (.isub, 1)) (hpc : pc + 1 < 100000) : OpOk E toW pc O_isub := by
  refine OpOk.mk (by omega) fun hE K L st S ho hk H locs hP hap hS hL hn ls hl => ?_
  subst hE
  unfold O_isub at ho
  split at ho
  · exact lv_isub F.1 F.2.1 hd ((hk _ _ _ _ ho).use hpc hP hap hS hL hn hl)
  · exact ho.elim
def O_imul : Op σ := fun K pc L st S => match st with
  | .int y :: .int x :: r => K (pc + 1) L (.int (x * y) :: r) S
  | _ => False
theorem ok_imul (F : Fx E own cc maxL d) (hd : decode cc pc = .ok (.imul, 1)) (hpc : pc + 1 < 100000) : OpOk E toW pc O_imul := by
  refine OpOk.mk (by omega) fun hE K L st S ho hk H locs hP hap hS hL hn ls hl => ?_
  subst hE
  unfold O_imul at ho
  split at ho
  · exact lv_imul F.1 F.2.1 hd ((hk _ _ _ _ ho).use hpc hP hap hS hL hn hl)
  · exact ho.elim
def O_iand : Op σ := fun K pc L st S => match st with
  | .int y :: .int x :: r => K (pc + 1) L (.int (x &&& y) :: r) S
  | _ => False
theorem ok_iand (F : Fx E own cc maxL d) (hd : decode cc pc = .ok (.iand, 1)) (hpc : pc + 1 < 100000) : OpOk E toW pc O_iand := by
  refine OpOk.mk (by omega) fun hE K L st S ho hk H locs hP hap hS hL hn ls hl => ?_
  subst hE
  unfold O_iand at ho
  split at ho
  · exact lv_iand F.1 F.2.1 hd ((hk _ _ _ _ ho).use hpc hP hap hS hL hn hl)
  · exact ho.elim
def O_ior : Op σ := fun K pc L st S => match st with
  | .int y :: .int x :: r => K (pc + 1) L (.int (x ||| y) :: r) S
  | _ => False
theorem ok_ior (F : Fx E own cc maxL d) (hd : decode cc pc = .ok (.ior, 1)) (hpc : pc + 1 < 100000) : OpOk E toW pc O_ior := by
  refine OpOk.mk (by omega) fun hE K L st S ho hk H locs hP hap hS hL hn ls hl => ?_
  subst hE
  unfold O_ior at ho
  split at ho
  · exact lv_ior F.1 F.2.1 hd ((hk _ _ _ _ ho).use hpc hP hap hS hL hn hl)
  · exact ho.elim
def O_ladd : Op σ := fun K pc L st S => match st with
  | .long y :: .long x :: r => K (pc + 1) L (.long (x + y) :: r) S
  | _ => False
theorem ok_ladd (F : Fx E own cc maxL d) (hd : decode cc pc = .ok (.ladd, 1)) (hpc : pc + 1 < 100000) : OpOk E toW pc O_ladd := by
  refine OpOk.mk (by omega) fun hE K L st S ho hk H locs hP hap hS hL hn ls hl => ?_
  subst hE
  unfold O_ladd at ho
  split at ho
  · exact lv_ladd F.1 F.2.1 hd ((hk _ _ _ _ ho).use hpc hP hap hS hL hn hl)
  · exact ho.elim
def O_lsub : Op σ := fun K pc L st S => match st with
  | .long y :: .long x :: r => K (pc + 1) L (.long (x - y) :: r) S
  | _ => False
theorem ok_lsub (F : Fx E own cc maxL d) (hd : decode cc pc = .ok (.lsub, 1)) (hpc : pc + 1 < 100000) : OpOk E toW pc O_lsub := by
  refine OpOk.mk (by omega) fun hE K L st S ho hk H locs hP hap hS hL hn ls hl => ?_
  subst hE
  unfold O_lsub at ho
  split at ho
  · exact lv_lsub F.1 F.2.1 hd ((hk _ _ _ _ ho).use hpc hP hap hS hL hn hl)
  · exact ho.elim
def O_lmul : Op σ := fun K pc L st S => match st with
  | .long y :: .long x :: r => K (pc + 1) L (.long (x * y) :: r) S
  | _ => False
theorem ok_lmul (F : Fx E own cc maxL d) (hd : decode cc pc = .ok (.lmul, 1)) (hpc : pc + 1 < 100000) : OpOk E toW pc O_lmul := by
  refine OpOk.mk (by omega) fun hE K L st S ho hk H locs hP hap hS hL hn ls hl => ?_
  subst hE
  unfold O_lmul at ho
  split at ho
  · exact lv_lmul F.1 F.2.1 hd ((hk _ _ _ _ ho).use hpc hP hap hS hL hn hl)
  · exact ho.elim
def O_ishl : Op σ := fun K pc L st S => match st with
  | .int y :: .int x :: r => K (pc + 1) L (.int (x <<< (y &&& 31)) :: r) S
  | _ => False
theorem ok_ishl (F : Fx E own cc maxL d) (hd : decode cc pc = .ok (.ishl, 1)) (hpc : pc + 1 < 100000) : OpOk E toW pc O_ishl := by
  refine OpOk.mk (by omega) fun hE K L st S ho hk H locs hP hap hS hL hn ls hl => ?_
  subst hE
  unfold O_ishl at ho
  split at ho
  · exact lv_ishl F.1 F.2.1 hd ((hk _ _ _ _ ho).use hpc hP hap hS hL hn hl)
  · exact ho.elim
def O_ishr : Op σ := fun K pc L st S => match st with
  | .int y :: .int x :: r => K (pc + 1) L (.int (x >>> (y &&& 31)) :: r) S
  | _ => False
theorem ok_ishr (F : Fx E own cc maxL d) (hd : decode cc pc = .ok (.ishr, 1)) (hpc : pc + 1 < 100000) : OpOk E toW pc O_ishr := by
  refine OpOk.mk (by omega) fun hE K L st S ho hk H locs hP hap hS hL hn ls hl => ?_
  subst hE
  unfold O_ishr at ho
  split at ho
  · exact lv_ishr F.1 F.2.1 hd ((hk _ _ _ _ ho).use hpc hP hap hS hL hn hl)
  · exact ho.elim
def O_idiv : Op σ := fun K pc L st S => match st with
  | .int y :: .int x :: r => ¬ y = 0 ∧ K (pc + 1) L (.int (x / y) :: r) S
  | _ => False
theorem ok_idiv (F : Fx E own cc maxL d) (hd : decode cc pc = .ok (.idiv, 1)) (hpc : pc + 1 < 100000) : OpOk E toW pc O_idiv := by
  refine OpOk.mk (by omega) fun hE K L st S ho hk H locs hP hap hS hL hn ls hl => ?_
  subst hE
  unfold O_idiv at ho
  split at ho
  · exact lv_idiv F.1 F.2.1 hd ho.1 ((hk _ _ _ _ ho.2).use hpc hP hap hS hL hn hl)
  · exact ho.elim
def O_irem : Op σ := fun K pc L st S => match st with
  | .int y :: .int x :: r => ¬ y = 0 ∧ K (pc + 1) L (.int (x - x / y * y) :: r) S
  | _ => False
theorem ok_irem (F : Fx E own cc maxL d) (hd : decode cc pc = .ok (.irem, 1)) (hpc : pc + 1 < 100000) : OpOk E toW pc O_irem := by
  refine OpOk.mk (by omega) fun hE K L st S ho hk H locs hP hap hS hL hn ls hl => ?_
  subst hE
  unfold O_irem at ho
  split at ho
  · exact lv_irem F.1 F.2.1 hd ho.1 ((hk _ _ _ _ ho.2).use hpc hP hap hS hL hn hl)
  · exact ho.elim
def O_ldiv : Op σ := fun K pc L st S => match st with
  | .long y :: .long x :: r => ¬ y = 0 ∧ K (pc + 1) L (.long (x / y) :: r) S
  | _ => False
theorem ok_ldiv (F : Fx E own cc maxL d) (hd : decode cc pc = .ok (.ldiv, 1)) (hpc : pc + 1 < 100000) : OpOk E toW pc O_ldiv := by
  refine OpOk.mk (by omega) fun hE K L st S ho hk H locs hP hap hS hL hn ls hl => ?_
  subst hE
  unfold O_ldiv at ho
  split at ho
  · exact lv_ldiv F.1 F.2.1 hd ho.1 ((hk _ _ _ _ ho.2).use hpc hP hap hS hL hn hl)
  · exact ho.elim
def O_icmp_eq (tgt : Nat) : Op σ := fun K pc L st S => match st with
  | .int y :: .int x :: r => (x = y → K tgt L r S) ∧ (¬ x = y → K (pc + 3) L r S)
  | _ => False
theorem ok_icmp_eq (F : Fx E own cc maxL d) {off : Int} {tgt : Nat} (hd : decode cc pc = .ok (.if_icmp .eq off, 3)) (ht : (pc : Int) + off = (tgt : Int)) (hpc : pc + 3 < 100000) (htg : tgt < 100000) : OpOk E toW pc (O_icmp_eq tgt) := by
  refine OpOk.mk (by omega) fun hE K L st S ho hk H locs hP hap hS hL hn ls hl => ?_
  subst hE
  unfold O_icmp_eq at ho
  split at ho
  · exact lv_icmp_eq F.1 F.2.1 hd ht (fun q => (hk _ _ _ _ (ho.1 (q))).use htg hP hap hS hL hn hl) (fun q => (hk _ _ _ _ (ho.2 (q))).use hpc hP hap hS hL hn hl)
  · exact ho.elim
def O_if_eq (tgt : Nat) : Op σ := fun K pc L st S => match st with
  | .int x :: r => (x = 0 → K tgt L r S) ∧ (¬ x = 0 → K (pc + 3) L r S)
  | _ => False
theorem ok_if_eq (F : Fx E own cc maxL d) {off : Int} {tgt : Nat} (hd : decode cc pc = .ok (.ifCond .eq off, 3)) (ht : (pc : Int) + off = (tgt : Int)) (hpc : pc + 3 < 100000) (htg : tgt < 100000) : OpOk E toW pc (O_if_eq tgt) := by
  refine OpOk.mk (by omega) fun hE K L st S ho hk H locs hP hap hS hL hn ls hl => ?_
  subst hE
  unfold O_if_eq at ho
  split at ho
  · exact lv_if_eq F.1 F.2.1 hd ht (fun q => (hk _ _ _ _ (ho.1 (q))).use htg hP hap hS hL hn hl) (fun q => (hk _ _ _ _ (ho.2 (q))).use hpc hP hap hS hL hn hl)
  · exact ho.elim
def O_icmp_ne (tgt : Nat) : Op σ := fun K pc L st S => match st with
  | .int y :: .int x :: r => (¬ x = y → K tgt L r S) ∧ (x = y → K (pc + 3) L r S)
  | _ => False
theorem ok_icmp_ne (F : Fx E own cc maxL d) {off : Int} {tgt : Nat} (hd : decode cc pc = .ok (.if_icmp .ne off, 3)) (ht : (pc : Int) + off = (tgt : Int)) (hpc : pc + 3 < 100000) (htg : tgt < 100000) : OpOk E toW pc (O_icmp_ne tgt) := by
  refine OpOk.mk (by omega) fun hE K L st S ho hk H locs hP hap hS hL hn ls hl => ?_
  subst hE
  unfold O_icmp_ne at ho
  split at ho
  · exact lv_icmp_ne F.1 F.2.1 hd ht (fun q => (hk _ _ _ _ (ho.1 (q))).use htg hP hap hS hL hn hl) (fun q => (hk _ _ _ _ (ho.2 (q))).use hpc hP hap hS hL hn hl)
  · exact ho.elim
def O_if_ne (tgt : Nat) : Op σ := fun K pc L st S => match st with
  | .int x :: r => (¬ x = 0 → K tgt L r S) ∧ (x = 0 → K (pc + 3) L r S)
  | _ => False
theorem ok_if_ne (F : Fx E own cc maxL d) {off : Int} {tgt : Nat} (hd : decode cc pc = .ok (.ifCond .ne off, 3)) (ht : (pc : Int) + off = (tgt : Int)) (hpc : pc + 3 < 100000) (htg : tgt < 100000) : OpOk E toW pc (O_if_ne tgt) := by
  refine OpOk.mk (by omega) fun hE K L st S ho hk H locs hP hap hS hL hn ls hl => ?_
  subst hE
  unfold O_if_ne at ho
  split at ho
  · exact lv_if_ne F.1 F.2.1 hd ht (fun q => (hk _ _ _ _ (ho.1 (q))).use htg hP hap hS hL hn hl) (fun q => (hk _ _ _ _ (ho.2 (q))).use hpc hP hap hS hL hn hl)
  · exact ho.elim
def O_icmp_lt (tgt : Nat) : Op σ := fun K pc L st S => match st with
  | .int y :: .int x :: r => (x < y → K tgt L r S) ∧ (¬ x < y → K (pc + 3) L r S)
  | _ => False
theorem ok_icmp_lt (F : Fx E own cc maxL d) {off : Int} {tgt : Nat} (hd : decode cc pc = .ok (.if_icmp .lt off, 3)) (ht : (pc : Int) + off = (tgt : Int)) (hpc : pc + 3 < 100000) (htg : tgt < 100000) : OpOk E toW pc (O_icmp_lt tgt) := by
  refine OpOk.mk (by omega) fun hE K L st S ho hk H locs hP hap hS hL hn ls hl => ?_
  subst hE
  unfold O_icmp_lt at ho
  split at ho
  · exact lv_icmp_lt F.1 F.2.1 hd ht (fun q => (hk _ _ _ _ (ho.1 (q))).use htg hP hap hS hL hn hl) (fun q => (hk _ _ _ _ (ho.2 (q))).use hpc hP hap hS hL hn hl)
  · exact ho.elim
def O_if_lt (tgt : Nat) : Op σ := fun K pc L st S => match st with
  | .int x :: r => (x < 0 → K tgt L r S) ∧ (¬ x < 0 → K (pc + 3) L r S)
  | _ => False
theorem ok_if_lt (F : Fx E own cc maxL d) {off : Int} {tgt : Nat} (hd : decode cc pc = .ok (.ifCond .lt off, 3)) (ht : (pc : Int) + off = (tgt : Int)) (hpc : pc + 3 < 100000) (htg : tgt < 100000) : OpOk E toW pc (O_if_lt tgt) := by
  refine OpOk.mk (by omega) fun hE K L st S ho hk H locs hP hap hS hL hn ls hl => ?_
  subst hE
  unfold O_if_lt at ho
  split at ho
  · exact lv_if_lt F.1 F.2.1 hd ht (fun q => (hk _ _ _ _ (ho.1 (q))).use htg hP hap hS hL hn hl) (fun q => (hk _ _ _ _ (ho.2 (q))).use hpc hP hap hS hL hn hl)
  · exact ho.elim
def O_icmp_ge (tgt : Nat) : Op σ := fun K pc L st S => match st with
  | .int y :: .int x :: r => (¬ x < y → K tgt L r S) ∧ (x < y → K (pc + 3) L r S)
  | _ => False
theorem ok_icmp_ge (F : Fx E own cc maxL d) {off : Int} {tgt : Nat} (hd : decode cc pc = .ok (.if_icmp .ge off, 3)) (ht : (pc : Int) + off = (tgt : Int)) (hpc : pc + 3 < 100000) (htg : tgt < 100000) : OpOk E toW pc (O_icmp_ge tgt) := by
  refine OpOk.mk (by omega) fun hE K L st S ho hk H locs hP hap hS hL hn ls hl => ?_
  subst hE
  unfold O_icmp_ge at ho
  split at ho
  · exact lv_icmp_ge F.1 F.2.1 hd ht (fun q => (hk _ _ _ _ (ho.1 (Int32.not_lt.mpr q))).use htg hP hap hS hL hn hl) (fun q => (hk _ _ _ _ (ho.2 (Int32.not_le.mp q))).use hpc hP hap hS hL hn hl)
  · exact ho.elim
def O_if_ge (tgt : Nat) : Op σ := fun K pc L st S => match st with
  | .int x :: r => (¬ x < 0 → K tgt L r S) ∧ (x < 0 → K (pc + 3) L r S)
  | _ => False
theorem ok_if_ge (F : Fx E own cc maxL d) {off : Int} {tgt : Nat} (hd : decode cc pc = .ok (.ifCond .ge off, 3)) (ht : (pc : Int) + off = (tgt : Int)) (hpc : pc + 3 < 100000) (htg : tgt < 100000) : OpOk E toW pc (O_if_ge tgt) := by
  refine OpOk.mk (by omega) fun hE K L st S ho hk H locs hP hap hS hL hn ls hl => ?_
  subst hE
  unfold O_if_ge at ho
  split at ho
  · exact lv_if_ge F.1 F.2.1 hd ht (fun q => (hk _ _ _ _ (ho.1 (Int32.not_lt.mpr q))).use htg hP hap hS hL hn hl) (fun q => (hk _ _ _ _ (ho.2 (Int32.not_le.mp q))).use hpc hP hap hS hL hn hl)
  · exact ho.elim
def O_icmp_gt (tgt : Nat) : Op σ := fun K pc L st S => match st with
  | .int y :: .int x :: r => (y < x → K tgt L r S) ∧ (¬ y < x → K (pc + 3) L r S)
  | _ => False
theorem ok_icmp_gt (F : Fx E own cc maxL d) {off : Int} {tgt : Nat} (hd : decode cc pc = .ok (.if_icmp .gt off, 3)) (ht : (pc : Int) + off = (tgt : Int)) (hpc : pc + 3 < 100000) (htg : tgt < 100000) : OpOk E toW pc (O_icmp_gt tgt) := by
  refine OpOk.mk (by omega) fun hE K L st S ho hk H locs hP hap hS hL hn ls hl => ?_
  subst hE
  unfold O_icmp_gt at ho
  split at ho
  · exact lv_icmp_gt F.1 F.2.1 hd ht (fun q => (hk _ _ _ _ (ho.1 (q))).use htg hP hap hS hL hn hl) (fun q => (hk _ _ _ _ (ho.2 (q))).use hpc hP hap hS hL hn hl)
  · exact ho.elim
def O_if_gt (tgt : Nat) : Op σ := fun K pc L st S => match st with
  | .int x :: r => (0 < x → K tgt L r S) ∧ (¬ 0 < x → K (pc + 3) L r S)
  | _ => False
theorem ok_if_gt (F : Fx E own cc maxL d) {off : Int} {tgt : Nat} (hd : decode cc pc = .ok (.ifCond .gt off, 3)) (ht : (pc : Int) + off = (tgt : Int)) (hpc : pc + 3 < 100000) (htg : tgt < 100000) : OpOk E toW pc (O_if_gt tgt) := by
  refine OpOk.mk (by omega) fun hE K L st S ho hk H locs hP hap hS hL hn ls hl => ?_
  subst hE
  unfold O_if_gt at ho
  split at ho
  · exact lv_if_gt F.1 F.2.1 hd ht (fun q => (hk _ _ _ _ (ho.1 (q))).use htg hP hap hS hL hn hl) (fun q => (hk _ _ _ _ (ho.2 (q))).use hpc hP hap hS hL hn hl)
  · exact ho.elim
def O_icmp_le (tgt : Nat) : Op σ := fun K pc L st S => match st with
  | .int y :: .int x :: r => (¬ y < x → K tgt L r S) ∧ (y < x → K (pc + 3) L r S)
  | _ => False
theorem ok_icmp_le (F : Fx E own cc maxL d) {off : Int} {tgt : Nat} (hd : decode cc pc = .ok (.if_icmp .le off, 3)) (ht : (pc : Int) + off = (tgt : Int)) (hpc : pc + 3 < 100000) (htg : tgt < 100000) : OpOk E toW pc (O_icmp_le tgt) := by
  refine OpOk.mk (by omega) fun hE K L st S ho hk H locs hP hap hS hL hn ls hl => ?_
  subst hE
  unfold O_icmp_le at ho
  split at ho
  · exact lv_icmp_le F.1 F.2.1 hd ht (fun q => (hk _ _ _ _ (ho.1 (Int32.not_lt.mpr q))).use htg hP hap hS hL hn hl) (fun q => (hk _ _ _ _ (ho.2 (Int32.not_le.mp q))).use hpc hP hap hS hL hn hl)
  · exact ho.elim
def O_if_le (tgt : Nat) : Op σ := fun K pc L st S => match st with
  | .int x :: r => (¬ 0 < x → K tgt L r S) ∧ (0 < x → K (pc + 3) L r S)
  | _ => False
theorem ok_if_le (F : Fx E own cc maxL d) {off : Int} {tgt : Nat} (hd : decode cc pc = .ok (.ifCond .le off, 3)) (ht : (pc : Int) + off = (tgt : Int)) (hpc : pc + 3 < 100000) (htg : tgt < 100000) : OpOk E toW pc (O_if_le tgt) := by
  refine OpOk.mk (by omega) fun hE K L st S ho hk H locs hP hap hS hL hn ls hl => ?_
  subst hE
  unfold O_if_le at ho
  split at ho
  · exact lv_if_le F.1 F.2.1 hd ht (fun q => (hk _ _ _ _ (ho.1 (Int32.not_lt.mpr q))).use htg hP hap hS hL hn hl) (fun q => (hk _ _ _ _ (ho.2 (Int32.not_le.mp q))).use hpc hP hap hS hL hn hl)
  · exact ho.elim
-- switches
def tsw {σ : Type} (K : Kt σ) (dt : Nat) (L : xL) (r : List Value) (S : σ) (x : Int32) : List (Int32 × Nat) → Prop
  | [] => K dt L r S
  | (c, t) :: u => (x = c → K t L r S) ∧ (¬ x = c → tsw K dt L r S x u)
def O_switch (cs : List (Int32 × Nat)) (dt : Nat) : Op σ := fun K _ L st S => match st with
  | .int x :: r => tsw K dt L r S x cs
  | _ => False
theorem tsw_in {K : Kt σ} {dt : Nat} {L : xL} {r : List Value} {S : σ} {x : Int32} : ∀ {cs : List (Int32 × Nat)} {k t : Nat}, tsw K dt L r S x cs → cs[k]? = some (x, t) → (∀ (j : Nat) (q : Int32 × Nat), j < k → cs[j]? = some q → x ≠ q.1) → K t L r S
  | [], k, t, _, h, _ => by simp at h
  | (c, t0) :: u, 0, t, h, e, _ => by
    simp at e
    obtain ⟨rfl, rfl⟩ := e
    exact h.1 rfl
  | (c, t0) :: u, k + 1, t, h, e, hne => tsw_in (h.2 (hne 0 (c, t0) (by omega) (by simp))) (by simpa using e) (fun j q hj hq => hne (j + 1) q (by omega) (by simpa using hq))
theorem tsw_out {K : Kt σ} {dt : Nat} {L : xL} {r : List Value} {S : σ} {x : Int32} : ∀ {cs : List (Int32 × Nat)}, tsw K dt L r S x cs → (∀ q ∈ cs, x ≠ q.1) → K dt L r S
  | [], h, _ => h
  | (c, t0) :: u, h, hne => tsw_out (h.2 (hne (c, t0) List.mem_cons_self)) (fun q hq => hne q (List.mem_cons_of_mem _ hq))
/-- a tableswitch's cases, looked through by a program -/
def tswOk (pc : Nat) (dflt lo hi : Int) (offs : Array Int) (cs : List (Int32 × Nat)) (dt : Nat) : Bool :=
  decide ((pc : Int) + dflt = (dt : Int)) && decide (dt < 100000) && decide (hi = lo + offs.size - 1) && decide (-1000 < lo) && decide (hi < 1000) && decide (cs.length = offs.size) &&
  (List.range offs.size).all (fun k => match cs[k]?, offs[k]? with
    | some (c, t), some o => decide (c.toInt = lo + (k : Int)) && decide ((pc : Int) + o = (t : Int)) && decide (t < 100000)
    | _, _ => false)
theorem ok_table (F : Fx E own cc maxL d) {dflt lo hi : Int} {offs : Array Int} {len : Nat} {cs : List (Int32 × Nat)} {dt : Nat} (hd : decode cc pc = .ok (.tableswitch dflt lo hi offs, len)) (hk0 : tswOk pc dflt lo hi offs cs dt = true) (hpc : pc < 100000) : OpOk E toW pc (O_switch cs dt) := by
  refine OpOk.mk (by omega) fun hE K L st S ho hk H locs hP hap hS hL hn ls hl => ?_
  subst hE
  unfold O_switch at ho
  split at ho
  · rename_i x r
    simp only [tswOk, Bool.and_eq_true, decide_eq_true_eq, List.all_eq_true, List.mem_range] at hk0
    obtain ⟨⟨⟨⟨⟨⟨k1, k2⟩, k3⟩, k4⟩, k5⟩, k6⟩, k7⟩ := hk0
    have key : ∀ k : Nat, k < offs.size → ∃ (c : Int32) (t : Nat) (o : Int), cs[k]? = some (c, t) ∧ offs[k]? = some o ∧ c.toInt = lo + (k : Int) ∧ (pc : Int) + o = (t : Int) ∧ t < 100000 := by
      intro k hk
      have h := k7 k hk
      split at h
      · rename_i c t o e1 e2
        simp only [Bool.and_eq_true, decide_eq_true_eq] at h
        exact ⟨c, t, o, e1, e2, h.1.1, h.1.2, h.2⟩
      · cases h
    by_cases hin : x.toInt < lo ∨ hi < x.toInt
    · refine lv_tableOut F.1 F.2.1 hd hin k1 ((hk _ _ _ _ (tsw_out ho ?_)).use k2 hP hap hS hL hn hl)
      intro q hq e
      obtain ⟨k, hk2⟩ := List.getElem?_of_mem hq
      have hlt : k < offs.size := by rw [← k6]; exact (List.getElem?_eq_some_iff.mp hk2).1
      obtain ⟨c, t, o, e1, -, e3, -⟩ := key k hlt
      rw [hk2] at e1
      cases e1
      rw [e, e3] at hin
      omega
    · have h1 : ¬ x.toInt < lo := fun q => hin (Or.inl q)
      have h2 : ¬ hi < x.toInt := fun q => hin (Or.inr q)
      have hlt : (x.toInt - lo).toNat < offs.size := by omega
      obtain ⟨c, t, o, e1, e2, e3, e4, e5⟩ := key _ hlt
      have hc : c = x := Int32.toInt_inj.mp (by rw [e3]; omega)
      subst hc
      refine lv_tableIn F.1 F.2.1 hd h1 h2 e2 e4 ((hk _ _ _ _ (tsw_in ho e1 ?_)).use e5 hP hap hS hL hn hl)
      intro j q hj hq e
      have hlt2 : j < offs.size := by omega
      obtain ⟨c', t', o', f1, -, f3, -⟩ := key j hlt2
      rw [hq] at f1
      cases f1
      have f4 : c.toInt = lo + (j : Int) := by rw [e]; exact f3
      omega
  · exact ho.elim
/-- a lookupswitch's -/
def lswOk (pc : Nat) (dflt : Int) (ps : List (Int × Int)) (cs : List (Int32 × Nat)) (dt : Nat) : Bool :=
  match ps, cs with
  | [], [] => decide ((pc : Int) + dflt = (dt : Int)) && decide (dt < 100000)
  | (a, o) :: ps, (c, t) :: cs => decide (c.toInt = a) && decide ((pc : Int) + o = (t : Int)) && decide (t < 100000) && lswOk pc dflt ps cs dt
  | _, _ => false
theorem lsw_go {pc dt : Nat} {K : Kt σ} {L : xL} {r : List Value} {S : σ} {x : Int32} {dflt : Int} : ∀ {ps : List (Int × Int)} {cs : List (Int32 × Nat)}, lswOk pc dflt ps cs dt = true → tsw K dt L r S x cs → ∃ t : Nat, t < 100000 ∧ (pc : Int) + Op.lookupswitch.offset ps dflt x.toInt = (t : Int) ∧ K t L r S
  | [], [], h, ho => by
    simp only [lswOk, Bool.and_eq_true, decide_eq_true_eq] at h
    exact ⟨dt, h.2, h.1, ho⟩
  | [], _ :: _, h, _ => by simp [lswOk] at h
  | _ :: _, [], h, _ => by simp [lswOk] at h
  | (a, o) :: ps, (c, t) :: cs, h, ho => by
    simp only [lswOk, Bool.and_eq_true, decide_eq_true_eq] at h
    obtain ⟨⟨⟨h1, h2⟩, h3⟩, h4⟩ := h
    by_cases hx : x = c
    · refine ⟨t, h3, ?_, ho.1 hx⟩
      rw [Op.lookupswitch.offset_cons, if_pos (by rw [hx, h1])]
      exact h2
    · rw [lv_osw hx h1]
      exact lsw_go h4 (ho.2 hx)
theorem ok_lookup (F : Fx E own cc maxL d) {dflt : Int} {ps : Array (Int × Int)} {len : Nat} {cs : List (Int32 × Nat)} {dt : Nat} (hd : decode cc pc = .ok (.lookupswitch dflt ps, len)) (hp : (ps.toList.zip (ps.toList.drop 1)).all (fun (a, next) => a.1 < next.1) = true) (hk0 : lswOk pc dflt ps.toList cs dt = true) (hpc : pc < 100000) : OpOk E toW pc (O_switch cs dt) := by
  refine OpOk.mk (by omega) fun hE K L st S ho hk H locs hP hap hS hL hn ls hl => ?_
  subst hE
  unfold O_switch at ho
  split at ho
  · rename_i x r
    obtain ⟨t, h1, h2, h3⟩ := lsw_go hk0 ho
    exact lv_lookup F.1 F.2.1 hd hp rfl h2 ((hk _ _ _ _ h3).use h1 hP hap hS hL hn hl)
  · exact ho.elim
end OPS
