/-! ===== the leaves' constructors ===== -/
theorem gi_iconst {E : En} {own : String} {cc : ByteArray} {maxL d pc : Nat} {n : Nat × Nat} {L : xL} {st : List Value} {w : xW} (F : Fx E own cc maxL d) {k : Int} {v : Int32} (hd : decode cc pc = .ok (.iconst k, 1)) (hv : Int32.ofInt k = v) (kk : Gi E n (pc + 1) L (.int v :: st) w) : Gi E n pc L st w := by
  obtain ⟨p, l, e, R, s, m, args, below, meth, c, Qc, Q, cs, A, nL, D, ad0⟩ := E
  intro ad H locs h0 hP hap hS hL hn ls hl
  exact lv_iconst F.1 F.2.1 hd hv (kk ad H locs h0 hP hap hS hL hn ls hl)
theorem coni_X0 : ConI yX0_init cX0_init 1 1 (4, 44) (.inr (.inl (0, [.null, .null, .null, .null, .int 0]))) (eW E0) := by
  refine ConI.of (by decide) rfl (by decide) (by simp [cok, rl]) (fun E F G I Cs Rm H => ?_)
  refine gi_aload F dX0_init_0 rfl rfl ?_
  refine gi_obj F (by decide +kernel) dX0_init_1 (by decide) (by decide) ?_
  refine gi_aload F dX0_init_4 rfl rfl ?_
  refine gi_bipush F (v := 12) dX0_init_5 (by decide) ?_
  refine gi_newa F (t := 0) (N := 12) (by decide) rfl (by decide) (by decide) (by decide) (by decide +kernel) dX0_init_7 (by simp [wok, cok, rl]) (by simp) (by simp [rlL, rl, xarg, xargs]) (by simp [rl]) (Rm _ (by decide) (by decide)) ?_
  refine gi_putF F I (ci := 0) (slot := 0) (k := 0) rfl (by simp) (fun _ _ _ h => by cases h; exact ⟨rfl, rfl⟩) (fun _ => rfl) (fun _ => rfl) (by decide +kernel) dX0_init_9 ?_
  refine gi_aload F dX0_init_12 rfl rfl ?_
  refine gi_bipush F (v := 12) dX0_init_13 (by decide) ?_
  refine gi_newa F (t := 0) (N := 12) (by decide) rfl (by decide) (by decide) (by decide) (by decide +kernel) dX0_init_15 (by simp [wok, cok, rl]) (by simp) (by simp [rlL, rl, xarg, xargs]) (by simp [rl]) (Rm _ (by decide) (by decide)) ?_
  refine gi_putF F I (ci := 0) (slot := 1) (k := 0) rfl (by simp) (fun _ _ _ h => by cases h; exact ⟨rfl, rfl⟩) (fun _ => rfl) (fun _ => rfl) (by decide +kernel) dX0_init_17 ?_
  refine gi_aload F dX0_init_20 rfl rfl ?_
  refine gi_bipush F (v := 12) dX0_init_21 (by decide) ?_
  refine gi_newa F (t := 0) (N := 12) (by decide) rfl (by decide) (by decide) (by decide) (by decide +kernel) dX0_init_23 (by simp [wok, cok, rl]) (by simp) (by simp [rlL, rl, xarg, xargs]) (by simp [rl]) (Rm _ (by decide) (by decide)) ?_
  refine gi_putF F I (ci := 0) (slot := 2) (k := 0) rfl (by simp) (fun _ _ _ h => by cases h; exact ⟨rfl, rfl⟩) (fun _ => rfl) (fun _ => rfl) (by decide +kernel) dX0_init_25 ?_
  refine gi_aload F dX0_init_28 rfl rfl ?_
  refine gi_bipush F (v := 8) dX0_init_29 (by decide) ?_
  refine gi_newa F (t := 0) (N := 8) (by decide) rfl (by decide) (by decide) (by decide) (by decide +kernel) dX0_init_31 (by simp [wok, cok, rl]) (by simp) (by simp [rlL, rl, xarg, xargs]) (by simp [rl]) (Rm _ (by decide) (by decide)) ?_
  refine gi_putF F I (ci := 0) (slot := 3) (k := 0) rfl (by simp) (fun _ _ _ h => by cases h; exact ⟨rfl, rfl⟩) (fun _ => rfl) (fun _ => rfl) (by decide +kernel) dX0_init_33 ?_
  exact gi_vret F G Cs dX0_init_36 H
theorem coni_X1 : ConI yX1_init cX1_init 1 1 (1, 7) (.inr (.inl (1, [.null, .int 0, .int 0, .int 0]))) (nW N0) := by
  refine ConI.of (by decide) rfl (by decide) (by simp [cok, rl]) (fun E F G I Cs Rm H => ?_)
  refine gi_aload F dX1_init_0 rfl rfl ?_
  refine gi_obj F (by decide +kernel) dX1_init_1 (by decide) (by decide) ?_
  refine gi_aload F dX1_init_4 rfl rfl ?_
  refine gi_bipush F (v := 7) dX1_init_5 (by decide) ?_
  refine gi_newa F (t := 0) (N := 7) (by decide) rfl (by decide) (by decide) (by decide) (by decide +kernel) dX1_init_7 (by simp [wok, cok, rl]) (by simp) (by simp [rlL, rl, xarg, xargs]) (by simp [rl]) (Rm _ (by decide) (by decide)) ?_
  refine gi_putF F I (ci := 1) (slot := 0) (k := 0) rfl (by simp) (fun _ _ _ h => by cases h; exact ⟨rfl, rfl⟩) (fun _ => rfl) (fun _ => rfl) (by decide +kernel) dX1_init_9 ?_
  exact gi_vret F G Cs dX1_init_12 H
theorem coni_X2 : ConI yX2_init cX2_init 1 1 (1, 60) (.inr (.inl (2, [.null, .int 0, .int 0, .int 0, .int 0, .int 0, .int 0]))) (oW O0) := by
  refine ConI.of (by decide) rfl (by decide) (by simp [cok, rl]) (fun E F G I Cs Rm H => ?_)
  refine gi_aload F dX2_init_0 rfl rfl ?_
  refine gi_obj F (by decide +kernel) dX2_init_1 (by decide) (by decide) ?_
  refine gi_aload F dX2_init_4 rfl rfl ?_
  refine gi_bipush F (v := 60) dX2_init_5 (by decide) ?_
  refine gi_newa F (t := 2) (N := 60) (by decide) rfl (by decide) (by decide) (by decide) (by decide +kernel) dX2_init_7 (by simp [wok, cok, rl]) (by simp) (by simp [rlL, rl, xarg, xargs]) (by simp [rl]) (Rm _ (by decide) (by decide)) ?_
  refine gi_putF F I (ci := 2) (slot := 0) (k := 0) rfl (by simp) (fun _ _ _ h => by cases h; exact ⟨rfl, rfl⟩) (fun _ => rfl) (fun _ => rfl) (by decide +kernel) dX2_init_9 ?_
  exact gi_vret F G Cs dX2_init_12 H
theorem coni_X3 : ConI yX3_init cX3_init 1 1 (8, 48) (.inr (.inl (3, [.null, .null, .null, .null, .null, .null, .null, .null, .int 0, .int 0]))) (pW P0) := by
  refine ConI.of (by decide) rfl (by decide) (by simp [cok, rl]) (fun E F G I Cs Rm H => ?_)
  refine gi_aload F dX3_init_0 rfl rfl ?_
  refine gi_obj F (by decide +kernel) dX3_init_1 (by decide) (by decide) ?_
  refine gi_aload F dX3_init_4 rfl rfl ?_
  refine gi_bipush F (v := 6) dX3_init_5 (by decide) ?_
  refine gi_newa F (t := 0) (N := 6) (by decide) rfl (by decide) (by decide) (by decide) (by decide +kernel) dX3_init_7 (by simp [wok, cok, rl]) (by simp) (by simp [rlL, rl, xarg, xargs]) (by simp [rl]) (Rm _ (by decide) (by decide)) ?_
  refine gi_putF F I (ci := 3) (slot := 0) (k := 0) rfl (by simp) (fun _ _ _ h => by cases h; exact ⟨rfl, rfl⟩) (fun _ => rfl) (fun _ => rfl) (by decide +kernel) dX3_init_9 ?_
  refine gi_aload F dX3_init_12 rfl rfl ?_
  refine gi_bipush F (v := 6) dX3_init_13 (by decide) ?_
  refine gi_newa F (t := 0) (N := 6) (by decide) rfl (by decide) (by decide) (by decide) (by decide +kernel) dX3_init_15 (by simp [wok, cok, rl]) (by simp) (by simp [rlL, rl, xarg, xargs]) (by simp [rl]) (Rm _ (by decide) (by decide)) ?_
  refine gi_putF F I (ci := 3) (slot := 1) (k := 0) rfl (by simp) (fun _ _ _ h => by cases h; exact ⟨rfl, rfl⟩) (fun _ => rfl) (fun _ => rfl) (by decide +kernel) dX3_init_17 ?_
  refine gi_aload F dX3_init_20 rfl rfl ?_
  refine gi_bipush F (v := 6) dX3_init_21 (by decide) ?_
  refine gi_newa F (t := 0) (N := 6) (by decide) rfl (by decide) (by decide) (by decide) (by decide +kernel) dX3_init_23 (by simp [wok, cok, rl]) (by simp) (by simp [rlL, rl, xarg, xargs]) (by simp [rl]) (Rm _ (by decide) (by decide)) ?_
  refine gi_putF F I (ci := 3) (slot := 2) (k := 0) rfl (by simp) (fun _ _ _ h => by cases h; exact ⟨rfl, rfl⟩) (fun _ => rfl) (fun _ => rfl) (by decide +kernel) dX3_init_25 ?_
  refine gi_aload F dX3_init_28 rfl rfl ?_
  refine gi_bipush F (v := 6) dX3_init_29 (by decide) ?_
  refine gi_newa F (t := 1) (N := 6) (by decide) rfl (by decide) (by decide) (by decide) (by decide +kernel) dX3_init_31 (by simp [wok, cok, rl]) (by simp) (by simp [rlL, rl, xarg, xargs]) (by simp [rl]) (Rm _ (by decide) (by decide)) ?_
  refine gi_putF F I (ci := 3) (slot := 3) (k := 0) rfl (by simp) (fun _ _ _ h => by cases h; exact ⟨rfl, rfl⟩) (fun _ => rfl) (fun _ => rfl) (by decide +kernel) dX3_init_33 ?_
  refine gi_aload F dX3_init_36 rfl rfl ?_
  refine gi_bipush F (v := 6) dX3_init_37 (by decide) ?_
  refine gi_newa F (t := 0) (N := 6) (by decide) rfl (by decide) (by decide) (by decide) (by decide +kernel) dX3_init_39 (by simp [wok, cok, rl]) (by simp) (by simp [rlL, rl, xarg, xargs]) (by simp [rl]) (Rm _ (by decide) (by decide)) ?_
  refine gi_putF F I (ci := 3) (slot := 4) (k := 0) rfl (by simp) (fun _ _ _ h => by cases h; exact ⟨rfl, rfl⟩) (fun _ => rfl) (fun _ => rfl) (by decide +kernel) dX3_init_41 ?_
  refine gi_aload F dX3_init_44 rfl rfl ?_
  refine gi_bipush F (v := 6) dX3_init_45 (by decide) ?_
  refine gi_newa F (t := 0) (N := 6) (by decide) rfl (by decide) (by decide) (by decide) (by decide +kernel) dX3_init_47 (by simp [wok, cok, rl]) (by simp) (by simp [rlL, rl, xarg, xargs]) (by simp [rl]) (Rm _ (by decide) (by decide)) ?_
  refine gi_putF F I (ci := 3) (slot := 5) (k := 0) rfl (by simp) (fun _ _ _ h => by cases h; exact ⟨rfl, rfl⟩) (fun _ => rfl) (fun _ => rfl) (by decide +kernel) dX3_init_49 ?_
  refine gi_aload F dX3_init_52 rfl rfl ?_
  refine gi_bipush F (v := 6) dX3_init_53 (by decide) ?_
  refine gi_newa F (t := 0) (N := 6) (by decide) rfl (by decide) (by decide) (by decide) (by decide +kernel) dX3_init_55 (by simp [wok, cok, rl]) (by simp) (by simp [rlL, rl, xarg, xargs]) (by simp [rl]) (Rm _ (by decide) (by decide)) ?_
  refine gi_putF F I (ci := 3) (slot := 6) (k := 0) rfl (by simp) (fun _ _ _ h => by cases h; exact ⟨rfl, rfl⟩) (fun _ => rfl) (fun _ => rfl) (by decide +kernel) dX3_init_57 ?_
  refine gi_aload F dX3_init_60 rfl rfl ?_
  refine gi_bipush F (v := 6) dX3_init_61 (by decide) ?_
  refine gi_newa F (t := 0) (N := 6) (by decide) rfl (by decide) (by decide) (by decide) (by decide +kernel) dX3_init_63 (by simp [wok, cok, rl]) (by simp) (by simp [rlL, rl, xarg, xargs]) (by simp [rl]) (Rm _ (by decide) (by decide)) ?_
  refine gi_putF F I (ci := 3) (slot := 7) (k := 0) rfl (by simp) (fun _ _ _ h => by cases h; exact ⟨rfl, rfl⟩) (fun _ => rfl) (fun _ => rfl) (by decide +kernel) dX3_init_65 ?_
  refine gi_aload F dX3_init_68 rfl rfl ?_
  refine gi_iconst F (v := -1) dX3_init_69 (by decide) ?_
  refine gi_putV F (ci := 3) (slot := 9) (k := 0) rfl (by simp) (fun _ _ _ h => by cases h; rfl) (fun _ => rfl) (fun _ => rfl) (by decide +kernel) dX3_init_70 ?_
  exact gi_vret F G Cs dX3_init_73 H
theorem coni_X5 : ConI yX5_init cX5_init 1 1 (5, 40) (.inr (.inl (5, [.null, .null, .int 0, .null, .null, .null, .int 0]))) (zW Z0) := by
  refine ConI.of (by decide) rfl (by decide) (by simp [cok, rl]) (fun E F G I Cs Rm H => ?_)
  refine gi_aload F dX5_init_0 rfl rfl ?_
  refine gi_obj F (by decide +kernel) dX5_init_1 (by decide) (by decide) ?_
  refine gi_aload F dX5_init_4 rfl rfl ?_
  refine gi_bipush F (v := 8) dX5_init_5 (by decide) ?_
  refine gi_newa F (t := 0) (N := 8) (by decide) rfl (by decide) (by decide) (by decide) (by decide +kernel) dX5_init_7 (by simp [wok, cok, rl]) (by simp) (by simp [rlL, rl, xarg, xargs]) (by simp [rl]) (Rm _ (by decide) (by decide)) ?_
  refine gi_putF F I (ci := 5) (slot := 0) (k := 0) rfl (by simp) (fun _ _ _ h => by cases h; exact ⟨rfl, rfl⟩) (fun _ => rfl) (fun _ => rfl) (by decide +kernel) dX5_init_9 ?_
  refine gi_aload F dX5_init_12 rfl rfl ?_
  refine gi_bipush F (v := 8) dX5_init_13 (by decide) ?_
  refine gi_newa F (t := 1) (N := 8) (by decide) rfl (by decide) (by decide) (by decide) (by decide +kernel) dX5_init_15 (by simp [wok, cok, rl]) (by simp) (by simp [rlL, rl, xarg, xargs]) (by simp [rl]) (Rm _ (by decide) (by decide)) ?_
  refine gi_putF F I (ci := 5) (slot := 1) (k := 0) rfl (by simp) (fun _ _ _ h => by cases h; exact ⟨rfl, rfl⟩) (fun _ => rfl) (fun _ => rfl) (by decide +kernel) dX5_init_17 ?_
  refine gi_aload F dX5_init_20 rfl rfl ?_
  refine gi_bipush F (v := 8) dX5_init_21 (by decide) ?_
  refine gi_newa F (t := 0) (N := 8) (by decide) rfl (by decide) (by decide) (by decide) (by decide +kernel) dX5_init_23 (by simp [wok, cok, rl]) (by simp) (by simp [rlL, rl, xarg, xargs]) (by simp [rl]) (Rm _ (by decide) (by decide)) ?_
  refine gi_putF F I (ci := 5) (slot := 3) (k := 0) rfl (by simp) (fun _ _ _ h => by cases h; exact ⟨rfl, rfl⟩) (fun _ => rfl) (fun _ => rfl) (by decide +kernel) dX5_init_25 ?_
  refine gi_aload F dX5_init_28 rfl rfl ?_
  refine gi_bipush F (v := 8) dX5_init_29 (by decide) ?_
  refine gi_newa F (t := 0) (N := 8) (by decide) rfl (by decide) (by decide) (by decide) (by decide +kernel) dX5_init_31 (by simp [wok, cok, rl]) (by simp) (by simp [rlL, rl, xarg, xargs]) (by simp [rl]) (Rm _ (by decide) (by decide)) ?_
  refine gi_putF F I (ci := 5) (slot := 4) (k := 0) rfl (by simp) (fun _ _ _ h => by cases h; exact ⟨rfl, rfl⟩) (fun _ => rfl) (fun _ => rfl) (by decide +kernel) dX5_init_33 ?_
  refine gi_aload F dX5_init_36 rfl rfl ?_
  refine gi_bipush F (v := 8) dX5_init_37 (by decide) ?_
  refine gi_newa F (t := 0) (N := 8) (by decide) rfl (by decide) (by decide) (by decide) (by decide +kernel) dX5_init_39 (by simp [wok, cok, rl]) (by simp) (by simp [rlL, rl, xarg, xargs]) (by simp [rl]) (Rm _ (by decide) (by decide)) ?_
  refine gi_putF F I (ci := 5) (slot := 5) (k := 0) rfl (by simp) (fun _ _ _ h => by cases h; exact ⟨rfl, rfl⟩) (fun _ => rfl) (fun _ => rfl) (by decide +kernel) dX5_init_41 ?_
  exact gi_vret F G Cs dX5_init_44 H
