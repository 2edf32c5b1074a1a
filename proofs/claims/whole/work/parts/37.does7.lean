/-! ===== the reference: orders are done ===== -/
theorem ne2 : ¬ (2 : Int32) = 0 := by decide
theorem ne3 : ¬ (3 : Int32) = 0 := by decide
theorem let5_o {o : Int32} (h : let5 o = true) : o = 111 ∨ o = 99 ∨ o = 115 ∨ o = 112 ∨ o = 114 := by
  unfold let5 at h
  exact of_decide_eq_true h
theorem order_eq (S : ST) (n : Int32) : S.order 111 n = S.tZone n 1 ∧ S.order 99 n = S.tZone n 0 ∧ S.order 115 n = S.tStop n ∧ S.order 112 n = S.tPass n ∧ S.order 114 n = S.tReset := by
  unfold ST.order
  refine ⟨?_, ?_, ?_, ?_, ?_⟩
  · rw [if_neg (by decide), if_neg (by decide), if_neg (by decide)]; rfl
  · rw [if_neg (by decide), if_neg (by decide), if_neg (by decide)]; rfl
  · rw [if_pos rfl]
  · rw [if_neg (by decide), if_neg (by decide), if_pos rfl]
  · rw [if_neg (by decide), if_pos rfl]
theorem tZone_eq (S : ST) (n is : Int32) : (S.Z.has n = false → S.tZone n is = (2, S)) ∧ (S.Z.has n = true → S.Z.isOpen n.toNatClampNeg = is → S.tZone n is = (3, S)) ∧ (S.Z.has n = true → ¬ S.Z.isOpen n.toNatClampNeg = is → S.tZone n is = (0, S.sZ (S.Z.sIsOpen (upd S.Z.isOpen n.toNatClampNeg is)))) := by
  unfold ST.tZone
  refine ⟨fun h => if_pos h, fun h g => ?_, fun h g => ?_⟩
  · rw [if_neg (by rw [h]; decide), if_pos g]
  · rw [if_neg (by rw [h]; decide), if_neg g]
theorem tStop_eq (S : ST) (n : Int32) : (S.P.has n = false → S.tStop n = (2, S)) ∧ (S.P.has n = true → S.P.inService n.toNatClampNeg = 0 → S.tStop n = (3, S)) ∧ (S.P.has n = true → ¬ S.P.inService n.toNatClampNeg = 0 → S.tStop n = (0, S.change n 0)) := by
  unfold ST.tStop
  refine ⟨fun h => if_pos h, fun h g => ?_, fun h g => ?_⟩
  · rw [if_neg (by rw [h]; decide), if_pos g]
  · rw [if_neg (by rw [h]; decide), if_neg g]
theorem tPass_eq (S : ST) (n : Int32) : (pfault S n = 0 → S.tPass n = (0, S.mins n.toNatClampNeg)) ∧ (¬ pfault S n = 0 → S.tPass n = (3, S)) := by
  unfold ST.tPass
  refine ⟨fun h => ?_, fun h => ?_⟩
  · rw [if_pos (pfault_ok h)]
  · rw [if_neg]
    intro z
    refine h ?_
    unfold pfault
    rw [if_neg (by rw [z.1]; decide), if_neg z.2]
theorem op2 {S : ZT} (h : S.inv) {n : Int32} (hh : S.has n = true) : ∃ i, i < 8 ∧ n.toNatClampNeg = i ∧ vp_in n 8 ∧ ((S.isOpen i = 0 ∧ S.isOp i = false) ∨ (S.isOpen i = 1 ∧ S.isOp i = true)) := by
  have hv := ZT.has_in h.1 hh
  obtain ⟨i, hi8, ez, e1, e2, e3, e4, e5⟩ := at_zone hv
  exact ⟨i, hi8, e1, hv, op_facts h.2.1 hi8⟩
def cod_X7_reasonOfOrder : List (Nat × Op QT) := [(0, O_aload 0 1), (1, O_getf aW 7 8), (4, O_switch [(99, 48), (111, 48), (112, 127), (115, 94)] 144), (48, O_aload 0 1), (49, O_aload 0 1), (50, O_getf aW 7 9), (53, O_callV 1 0 (fun S => S) (fun _ S' => S') sp_X7_isZone), (56, O_if_ne 63), (59, O_int 2 1), (60, O_goto 93), (63, O_aload 0 1), (64, O_aload 0 1), (65, O_getf aW 7 9), (68, O_callV 1 0 (fun S => S) (fun _ S' => S') sp_X7_isOpen), (71, O_aload 0 1), (72, O_getf aW 7 8), (75, O_int 111 2), (77, O_icmp_ne 84), (80, O_int 1 1), (81, O_goto 85), (84, O_int 0 1), (85, O_icmp_ne 92), (88, O_int 3 1), (89, O_goto 93), (92, O_int 0 1), (93, O_iret), (94, O_aload 0 1), (95, O_aload 0 1), (96, O_getf aW 7 9), (99, O_callV 1 0 (fun S => S) (fun _ S' => S') sp_X7_isPump), (102, O_if_ne 109), (105, O_int 2 1), (106, O_goto 126), (109, O_aload 0 1), (110, O_aload 0 1), (111, O_getf aW 7 9), (114, O_int 3 1), (115, O_callV 2 0 (fun S => S) (fun _ S' => S') sp_X7_of), (118, O_if_ne 125), (121, O_int 3 1), (122, O_goto 126), (125, O_int 0 1), (126, O_iret), (127, O_aload 0 1), (128, O_aload 0 1), (129, O_getf aW 7 9), (132, O_callV 1 0 (fun S => S) (fun _ S' => S') sp_X7_passFault), (135, O_if_eq 142), (138, O_int 3 1), (139, O_goto 143), (142, O_int 0 1), (143, O_iret), (144, O_aload 0 1), (145, O_getf aW 7 0), (148, O_int 6 2), (150, O_ald aW 0), (151, O_if_ne 158), (154, O_int 3 1), (155, O_goto 159), (158, O_int 0 1), (159, O_iret)]
abbrev cut_X7_reasonOfOrder : List Nat := []
set_option maxRecDepth 100000 in
theorem okc_X7_reasonOfOrder {E : En} (F : Fx E RX7 cX7_reasonOfOrder 1 2) (G : Fr E (some .int)) : CodOk E aW cod_X7_reasonOfOrder := by
  unfold CodOk cod_X7_reasonOfOrder
  refine List.forall_mem_cons.mpr ⟨ok_aload_n F dX7_reasonOfOrder_0 rfl (by decide), ?_⟩
  refine List.forall_mem_cons.mpr ⟨ok_getf F flX7_251 dX7_reasonOfOrder_1 (by decide), ?_⟩
  refine List.forall_mem_cons.mpr ⟨ok_lookup F dX7_reasonOfOrder_4 (by decide +kernel) (by decide +kernel) (by decide), ?_⟩
  refine List.forall_mem_cons.mpr ⟨ok_aload_n F dX7_reasonOfOrder_48 rfl (by decide), ?_⟩
  refine List.forall_mem_cons.mpr ⟨ok_aload_n F dX7_reasonOfOrder_49 rfl (by decide), ?_⟩
  refine List.forall_mem_cons.mpr ⟨ok_getf F flX7_254 dX7_reasonOfOrder_50 (by decide), ?_⟩
  refine List.forall_mem_cons.mpr ⟨ok_callV F spok_X7_isZone (ln_id aW) rcv_aW (by decide +kernel) (by decide) dX7_reasonOfOrder_53 (by decide), ?_⟩
  refine List.forall_mem_cons.mpr ⟨ok_if_ne F dX7_reasonOfOrder_56 (by decide) (by decide) (by decide), ?_⟩
  refine List.forall_mem_cons.mpr ⟨ok_iconst F dX7_reasonOfOrder_59 (by decide) (by decide), ?_⟩
  refine List.forall_mem_cons.mpr ⟨ok_goto F dX7_reasonOfOrder_60 (by decide) (by decide) (by decide), ?_⟩
  refine List.forall_mem_cons.mpr ⟨ok_aload_n F dX7_reasonOfOrder_63 rfl (by decide), ?_⟩
  refine List.forall_mem_cons.mpr ⟨ok_aload_n F dX7_reasonOfOrder_64 rfl (by decide), ?_⟩
  refine List.forall_mem_cons.mpr ⟨ok_getf F flX7_254 dX7_reasonOfOrder_65 (by decide), ?_⟩
  refine List.forall_mem_cons.mpr ⟨ok_callV F spok_X7_isOpen (ln_id aW) rcv_aW (by decide +kernel) (by decide) dX7_reasonOfOrder_68 (by decide), ?_⟩
  refine List.forall_mem_cons.mpr ⟨ok_aload_n F dX7_reasonOfOrder_71 rfl (by decide), ?_⟩
  refine List.forall_mem_cons.mpr ⟨ok_getf F flX7_251 dX7_reasonOfOrder_72 (by decide), ?_⟩
  refine List.forall_mem_cons.mpr ⟨ok_bipush F dX7_reasonOfOrder_75 (by decide) (by decide), ?_⟩
  refine List.forall_mem_cons.mpr ⟨ok_icmp_ne F dX7_reasonOfOrder_77 (by decide) (by decide) (by decide), ?_⟩
  refine List.forall_mem_cons.mpr ⟨ok_iconst F dX7_reasonOfOrder_80 (by decide) (by decide), ?_⟩
  refine List.forall_mem_cons.mpr ⟨ok_goto F dX7_reasonOfOrder_81 (by decide) (by decide) (by decide), ?_⟩
  refine List.forall_mem_cons.mpr ⟨ok_iconst F dX7_reasonOfOrder_84 (by decide) (by decide), ?_⟩
  refine List.forall_mem_cons.mpr ⟨ok_icmp_ne F dX7_reasonOfOrder_85 (by decide) (by decide) (by decide), ?_⟩
  refine List.forall_mem_cons.mpr ⟨ok_iconst F dX7_reasonOfOrder_88 (by decide) (by decide), ?_⟩
  refine List.forall_mem_cons.mpr ⟨ok_goto F dX7_reasonOfOrder_89 (by decide) (by decide) (by decide), ?_⟩
  refine List.forall_mem_cons.mpr ⟨ok_iconst F dX7_reasonOfOrder_92 (by decide) (by decide), ?_⟩
  refine List.forall_mem_cons.mpr ⟨ok_iret F G dX7_reasonOfOrder_93 (by decide), ?_⟩
  refine List.forall_mem_cons.mpr ⟨ok_aload_n F dX7_reasonOfOrder_94 rfl (by decide), ?_⟩
  refine List.forall_mem_cons.mpr ⟨ok_aload_n F dX7_reasonOfOrder_95 rfl (by decide), ?_⟩
  refine List.forall_mem_cons.mpr ⟨ok_getf F flX7_254 dX7_reasonOfOrder_96 (by decide), ?_⟩
  refine List.forall_mem_cons.mpr ⟨ok_callV F spok_X7_isPump (ln_id aW) rcv_aW (by decide +kernel) (by decide) dX7_reasonOfOrder_99 (by decide), ?_⟩
  refine List.forall_mem_cons.mpr ⟨ok_if_ne F dX7_reasonOfOrder_102 (by decide) (by decide) (by decide), ?_⟩
  refine List.forall_mem_cons.mpr ⟨ok_iconst F dX7_reasonOfOrder_105 (by decide) (by decide), ?_⟩
  refine List.forall_mem_cons.mpr ⟨ok_goto F dX7_reasonOfOrder_106 (by decide) (by decide) (by decide), ?_⟩
  refine List.forall_mem_cons.mpr ⟨ok_aload_n F dX7_reasonOfOrder_109 rfl (by decide), ?_⟩
  refine List.forall_mem_cons.mpr ⟨ok_aload_n F dX7_reasonOfOrder_110 rfl (by decide), ?_⟩
  refine List.forall_mem_cons.mpr ⟨ok_getf F flX7_254 dX7_reasonOfOrder_111 (by decide), ?_⟩
  refine List.forall_mem_cons.mpr ⟨ok_iconst F dX7_reasonOfOrder_114 (by decide) (by decide), ?_⟩
  refine List.forall_mem_cons.mpr ⟨ok_callV F spok_X7_of (ln_id aW) rcv_aW (by decide +kernel) (by decide) dX7_reasonOfOrder_115 (by decide), ?_⟩
  refine List.forall_mem_cons.mpr ⟨ok_if_ne F dX7_reasonOfOrder_118 (by decide) (by decide) (by decide), ?_⟩
  refine List.forall_mem_cons.mpr ⟨ok_iconst F dX7_reasonOfOrder_121 (by decide) (by decide), ?_⟩
  refine List.forall_mem_cons.mpr ⟨ok_goto F dX7_reasonOfOrder_122 (by decide) (by decide) (by decide), ?_⟩
  refine List.forall_mem_cons.mpr ⟨ok_iconst F dX7_reasonOfOrder_125 (by decide) (by decide), ?_⟩
  refine List.forall_mem_cons.mpr ⟨ok_iret F G dX7_reasonOfOrder_126 (by decide), ?_⟩
  refine List.forall_mem_cons.mpr ⟨ok_aload_n F dX7_reasonOfOrder_127 rfl (by decide), ?_⟩
  refine List.forall_mem_cons.mpr ⟨ok_aload_n F dX7_reasonOfOrder_128 rfl (by decide), ?_⟩
  refine List.forall_mem_cons.mpr ⟨ok_getf F flX7_254 dX7_reasonOfOrder_129 (by decide), ?_⟩
  refine List.forall_mem_cons.mpr ⟨ok_callV F spok_X7_passFault (ln_id aW) rcv_aW (by decide +kernel) (by decide) dX7_reasonOfOrder_132 (by decide), ?_⟩
  refine List.forall_mem_cons.mpr ⟨ok_if_eq F dX7_reasonOfOrder_135 (by decide) (by decide) (by decide), ?_⟩
  refine List.forall_mem_cons.mpr ⟨ok_iconst F dX7_reasonOfOrder_138 (by decide) (by decide), ?_⟩
  refine List.forall_mem_cons.mpr ⟨ok_goto F dX7_reasonOfOrder_139 (by decide) (by decide) (by decide), ?_⟩
  refine List.forall_mem_cons.mpr ⟨ok_iconst F dX7_reasonOfOrder_142 (by decide) (by decide), ?_⟩
  refine List.forall_mem_cons.mpr ⟨ok_iret F G dX7_reasonOfOrder_143 (by decide), ?_⟩
  refine List.forall_mem_cons.mpr ⟨ok_aload_n F dX7_reasonOfOrder_144 rfl (by decide), ?_⟩
  refine List.forall_mem_cons.mpr ⟨ok_getf F flX7_7 dX7_reasonOfOrder_145 (by decide), ?_⟩
  refine List.forall_mem_cons.mpr ⟨ok_bipush F dX7_reasonOfOrder_148 (by decide) (by decide), ?_⟩
  refine List.forall_mem_cons.mpr ⟨ok_iald F dX7_reasonOfOrder_150 (by decide), ?_⟩
  refine List.forall_mem_cons.mpr ⟨ok_if_ne F dX7_reasonOfOrder_151 (by decide) (by decide) (by decide), ?_⟩
  refine List.forall_mem_cons.mpr ⟨ok_iconst F dX7_reasonOfOrder_154 (by decide) (by decide), ?_⟩
  refine List.forall_mem_cons.mpr ⟨ok_goto F dX7_reasonOfOrder_155 (by decide) (by decide) (by decide), ?_⟩
  refine List.forall_mem_cons.mpr ⟨ok_iconst F dX7_reasonOfOrder_158 (by decide) (by decide), ?_⟩
  refine List.forall_mem_cons.mpr ⟨ok_iret F G dX7_reasonOfOrder_159 (by decide), ?_⟩
  exact fun _ h => absurd h List.not_mem_nil
set_option maxRecDepth 100000 in
theorem w_X7_reasonOfOrder : (∀ (K : Kt QT) (n : Nat) (L : xL) (st : List Value) (S : QT), nx cod_X7_reasonOfOrder cut_X7_reasonOfOrder K (n + 1) 0 L st S = (O_aload 0 1) (nx cod_X7_reasonOfOrder cut_X7_reasonOfOrder K n) 0 L st S) ∧
  (∀ (K : Kt QT) (n : Nat) (L : xL) (st : List Value) (S : QT), nx cod_X7_reasonOfOrder cut_X7_reasonOfOrder K (n + 1) 1 L st S = (O_getf aW 7 8) (nx cod_X7_reasonOfOrder cut_X7_reasonOfOrder K n) 1 L st S) ∧
  (∀ (K : Kt QT) (n : Nat) (L : xL) (st : List Value) (S : QT), nx cod_X7_reasonOfOrder cut_X7_reasonOfOrder K (n + 1) 4 L st S = (O_switch [(99, 48), (111, 48), (112, 127), (115, 94)] 144) (nx cod_X7_reasonOfOrder cut_X7_reasonOfOrder K n) 4 L st S) ∧
  (∀ (K : Kt QT) (n : Nat) (L : xL) (st : List Value) (S : QT), nx cod_X7_reasonOfOrder cut_X7_reasonOfOrder K (n + 1) 48 L st S = (O_aload 0 1) (nx cod_X7_reasonOfOrder cut_X7_reasonOfOrder K n) 48 L st S) ∧
  (∀ (K : Kt QT) (n : Nat) (L : xL) (st : List Value) (S : QT), nx cod_X7_reasonOfOrder cut_X7_reasonOfOrder K (n + 1) 49 L st S = (O_aload 0 1) (nx cod_X7_reasonOfOrder cut_X7_reasonOfOrder K n) 49 L st S) ∧
  (∀ (K : Kt QT) (n : Nat) (L : xL) (st : List Value) (S : QT), nx cod_X7_reasonOfOrder cut_X7_reasonOfOrder K (n + 1) 50 L st S = (O_getf aW 7 9) (nx cod_X7_reasonOfOrder cut_X7_reasonOfOrder K n) 50 L st S) ∧
  (∀ (K : Kt QT) (n : Nat) (L : xL) (st : List Value) (S : QT), nx cod_X7_reasonOfOrder cut_X7_reasonOfOrder K (n + 1) 53 L st S = (O_callV 1 0 (fun S => S) (fun _ S' => S') sp_X7_isZone) (nx cod_X7_reasonOfOrder cut_X7_reasonOfOrder K n) 53 L st S) ∧
  (∀ (K : Kt QT) (n : Nat) (L : xL) (st : List Value) (S : QT), nx cod_X7_reasonOfOrder cut_X7_reasonOfOrder K (n + 1) 56 L st S = (O_if_ne 63) (nx cod_X7_reasonOfOrder cut_X7_reasonOfOrder K n) 56 L st S) ∧
  (∀ (K : Kt QT) (n : Nat) (L : xL) (st : List Value) (S : QT), nx cod_X7_reasonOfOrder cut_X7_reasonOfOrder K (n + 1) 59 L st S = (O_int 2 1) (nx cod_X7_reasonOfOrder cut_X7_reasonOfOrder K n) 59 L st S) ∧
  (∀ (K : Kt QT) (n : Nat) (L : xL) (st : List Value) (S : QT), nx cod_X7_reasonOfOrder cut_X7_reasonOfOrder K (n + 1) 60 L st S = (O_goto 93) (nx cod_X7_reasonOfOrder cut_X7_reasonOfOrder K n) 60 L st S) ∧
  (∀ (K : Kt QT) (n : Nat) (L : xL) (st : List Value) (S : QT), nx cod_X7_reasonOfOrder cut_X7_reasonOfOrder K (n + 1) 63 L st S = (O_aload 0 1) (nx cod_X7_reasonOfOrder cut_X7_reasonOfOrder K n) 63 L st S) ∧
  (∀ (K : Kt QT) (n : Nat) (L : xL) (st : List Value) (S : QT), nx cod_X7_reasonOfOrder cut_X7_reasonOfOrder K (n + 1) 64 L st S = (O_aload 0 1) (nx cod_X7_reasonOfOrder cut_X7_reasonOfOrder K n) 64 L st S) ∧
  (∀ (K : Kt QT) (n : Nat) (L : xL) (st : List Value) (S : QT), nx cod_X7_reasonOfOrder cut_X7_reasonOfOrder K (n + 1) 65 L st S = (O_getf aW 7 9) (nx cod_X7_reasonOfOrder cut_X7_reasonOfOrder K n) 65 L st S) ∧
  (∀ (K : Kt QT) (n : Nat) (L : xL) (st : List Value) (S : QT), nx cod_X7_reasonOfOrder cut_X7_reasonOfOrder K (n + 1) 68 L st S = (O_callV 1 0 (fun S => S) (fun _ S' => S') sp_X7_isOpen) (nx cod_X7_reasonOfOrder cut_X7_reasonOfOrder K n) 68 L st S) ∧
  (∀ (K : Kt QT) (n : Nat) (L : xL) (st : List Value) (S : QT), nx cod_X7_reasonOfOrder cut_X7_reasonOfOrder K (n + 1) 71 L st S = (O_aload 0 1) (nx cod_X7_reasonOfOrder cut_X7_reasonOfOrder K n) 71 L st S) ∧
  (∀ (K : Kt QT) (n : Nat) (L : xL) (st : List Value) (S : QT), nx cod_X7_reasonOfOrder cut_X7_reasonOfOrder K (n + 1) 72 L st S = (O_getf aW 7 8) (nx cod_X7_reasonOfOrder cut_X7_reasonOfOrder K n) 72 L st S) ∧
  (∀ (K : Kt QT) (n : Nat) (L : xL) (st : List Value) (S : QT), nx cod_X7_reasonOfOrder cut_X7_reasonOfOrder K (n + 1) 75 L st S = (O_int 111 2) (nx cod_X7_reasonOfOrder cut_X7_reasonOfOrder K n) 75 L st S) ∧
  (∀ (K : Kt QT) (n : Nat) (L : xL) (st : List Value) (S : QT), nx cod_X7_reasonOfOrder cut_X7_reasonOfOrder K (n + 1) 77 L st S = (O_icmp_ne 84) (nx cod_X7_reasonOfOrder cut_X7_reasonOfOrder K n) 77 L st S) ∧
  (∀ (K : Kt QT) (n : Nat) (L : xL) (st : List Value) (S : QT), nx cod_X7_reasonOfOrder cut_X7_reasonOfOrder K (n + 1) 80 L st S = (O_int 1 1) (nx cod_X7_reasonOfOrder cut_X7_reasonOfOrder K n) 80 L st S) ∧
  (∀ (K : Kt QT) (n : Nat) (L : xL) (st : List Value) (S : QT), nx cod_X7_reasonOfOrder cut_X7_reasonOfOrder K (n + 1) 81 L st S = (O_goto 85) (nx cod_X7_reasonOfOrder cut_X7_reasonOfOrder K n) 81 L st S) ∧
  (∀ (K : Kt QT) (n : Nat) (L : xL) (st : List Value) (S : QT), nx cod_X7_reasonOfOrder cut_X7_reasonOfOrder K (n + 1) 84 L st S = (O_int 0 1) (nx cod_X7_reasonOfOrder cut_X7_reasonOfOrder K n) 84 L st S) ∧
  (∀ (K : Kt QT) (n : Nat) (L : xL) (st : List Value) (S : QT), nx cod_X7_reasonOfOrder cut_X7_reasonOfOrder K (n + 1) 85 L st S = (O_icmp_ne 92) (nx cod_X7_reasonOfOrder cut_X7_reasonOfOrder K n) 85 L st S) ∧
  (∀ (K : Kt QT) (n : Nat) (L : xL) (st : List Value) (S : QT), nx cod_X7_reasonOfOrder cut_X7_reasonOfOrder K (n + 1) 88 L st S = (O_int 3 1) (nx cod_X7_reasonOfOrder cut_X7_reasonOfOrder K n) 88 L st S) ∧
  (∀ (K : Kt QT) (n : Nat) (L : xL) (st : List Value) (S : QT), nx cod_X7_reasonOfOrder cut_X7_reasonOfOrder K (n + 1) 89 L st S = (O_goto 93) (nx cod_X7_reasonOfOrder cut_X7_reasonOfOrder K n) 89 L st S) ∧
  (∀ (K : Kt QT) (n : Nat) (L : xL) (st : List Value) (S : QT), nx cod_X7_reasonOfOrder cut_X7_reasonOfOrder K (n + 1) 92 L st S = (O_int 0 1) (nx cod_X7_reasonOfOrder cut_X7_reasonOfOrder K n) 92 L st S) ∧
  (∀ (K : Kt QT) (n : Nat) (L : xL) (st : List Value) (S : QT), nx cod_X7_reasonOfOrder cut_X7_reasonOfOrder K (n + 1) 93 L st S = (O_iret) (nx cod_X7_reasonOfOrder cut_X7_reasonOfOrder K n) 93 L st S) ∧
  (∀ (K : Kt QT) (n : Nat) (L : xL) (st : List Value) (S : QT), nx cod_X7_reasonOfOrder cut_X7_reasonOfOrder K (n + 1) 94 L st S = (O_aload 0 1) (nx cod_X7_reasonOfOrder cut_X7_reasonOfOrder K n) 94 L st S) ∧
  (∀ (K : Kt QT) (n : Nat) (L : xL) (st : List Value) (S : QT), nx cod_X7_reasonOfOrder cut_X7_reasonOfOrder K (n + 1) 95 L st S = (O_aload 0 1) (nx cod_X7_reasonOfOrder cut_X7_reasonOfOrder K n) 95 L st S) ∧
  (∀ (K : Kt QT) (n : Nat) (L : xL) (st : List Value) (S : QT), nx cod_X7_reasonOfOrder cut_X7_reasonOfOrder K (n + 1) 96 L st S = (O_getf aW 7 9) (nx cod_X7_reasonOfOrder cut_X7_reasonOfOrder K n) 96 L st S) ∧
  (∀ (K : Kt QT) (n : Nat) (L : xL) (st : List Value) (S : QT), nx cod_X7_reasonOfOrder cut_X7_reasonOfOrder K (n + 1) 99 L st S = (O_callV 1 0 (fun S => S) (fun _ S' => S') sp_X7_isPump) (nx cod_X7_reasonOfOrder cut_X7_reasonOfOrder K n) 99 L st S) ∧
  (∀ (K : Kt QT) (n : Nat) (L : xL) (st : List Value) (S : QT), nx cod_X7_reasonOfOrder cut_X7_reasonOfOrder K (n + 1) 102 L st S = (O_if_ne 109) (nx cod_X7_reasonOfOrder cut_X7_reasonOfOrder K n) 102 L st S) ∧
  (∀ (K : Kt QT) (n : Nat) (L : xL) (st : List Value) (S : QT), nx cod_X7_reasonOfOrder cut_X7_reasonOfOrder K (n + 1) 105 L st S = (O_int 2 1) (nx cod_X7_reasonOfOrder cut_X7_reasonOfOrder K n) 105 L st S) ∧
  (∀ (K : Kt QT) (n : Nat) (L : xL) (st : List Value) (S : QT), nx cod_X7_reasonOfOrder cut_X7_reasonOfOrder K (n + 1) 106 L st S = (O_goto 126) (nx cod_X7_reasonOfOrder cut_X7_reasonOfOrder K n) 106 L st S) ∧
  (∀ (K : Kt QT) (n : Nat) (L : xL) (st : List Value) (S : QT), nx cod_X7_reasonOfOrder cut_X7_reasonOfOrder K (n + 1) 109 L st S = (O_aload 0 1) (nx cod_X7_reasonOfOrder cut_X7_reasonOfOrder K n) 109 L st S) ∧
  (∀ (K : Kt QT) (n : Nat) (L : xL) (st : List Value) (S : QT), nx cod_X7_reasonOfOrder cut_X7_reasonOfOrder K (n + 1) 110 L st S = (O_aload 0 1) (nx cod_X7_reasonOfOrder cut_X7_reasonOfOrder K n) 110 L st S) ∧
  (∀ (K : Kt QT) (n : Nat) (L : xL) (st : List Value) (S : QT), nx cod_X7_reasonOfOrder cut_X7_reasonOfOrder K (n + 1) 111 L st S = (O_getf aW 7 9) (nx cod_X7_reasonOfOrder cut_X7_reasonOfOrder K n) 111 L st S) ∧
  (∀ (K : Kt QT) (n : Nat) (L : xL) (st : List Value) (S : QT), nx cod_X7_reasonOfOrder cut_X7_reasonOfOrder K (n + 1) 114 L st S = (O_int 3 1) (nx cod_X7_reasonOfOrder cut_X7_reasonOfOrder K n) 114 L st S) ∧
  (∀ (K : Kt QT) (n : Nat) (L : xL) (st : List Value) (S : QT), nx cod_X7_reasonOfOrder cut_X7_reasonOfOrder K (n + 1) 115 L st S = (O_callV 2 0 (fun S => S) (fun _ S' => S') sp_X7_of) (nx cod_X7_reasonOfOrder cut_X7_reasonOfOrder K n) 115 L st S) ∧
  (∀ (K : Kt QT) (n : Nat) (L : xL) (st : List Value) (S : QT), nx cod_X7_reasonOfOrder cut_X7_reasonOfOrder K (n + 1) 118 L st S = (O_if_ne 125) (nx cod_X7_reasonOfOrder cut_X7_reasonOfOrder K n) 118 L st S) ∧
  (∀ (K : Kt QT) (n : Nat) (L : xL) (st : List Value) (S : QT), nx cod_X7_reasonOfOrder cut_X7_reasonOfOrder K (n + 1) 121 L st S = (O_int 3 1) (nx cod_X7_reasonOfOrder cut_X7_reasonOfOrder K n) 121 L st S) ∧
  (∀ (K : Kt QT) (n : Nat) (L : xL) (st : List Value) (S : QT), nx cod_X7_reasonOfOrder cut_X7_reasonOfOrder K (n + 1) 122 L st S = (O_goto 126) (nx cod_X7_reasonOfOrder cut_X7_reasonOfOrder K n) 122 L st S) ∧
  (∀ (K : Kt QT) (n : Nat) (L : xL) (st : List Value) (S : QT), nx cod_X7_reasonOfOrder cut_X7_reasonOfOrder K (n + 1) 125 L st S = (O_int 0 1) (nx cod_X7_reasonOfOrder cut_X7_reasonOfOrder K n) 125 L st S) ∧
  (∀ (K : Kt QT) (n : Nat) (L : xL) (st : List Value) (S : QT), nx cod_X7_reasonOfOrder cut_X7_reasonOfOrder K (n + 1) 126 L st S = (O_iret) (nx cod_X7_reasonOfOrder cut_X7_reasonOfOrder K n) 126 L st S) ∧
  (∀ (K : Kt QT) (n : Nat) (L : xL) (st : List Value) (S : QT), nx cod_X7_reasonOfOrder cut_X7_reasonOfOrder K (n + 1) 127 L st S = (O_aload 0 1) (nx cod_X7_reasonOfOrder cut_X7_reasonOfOrder K n) 127 L st S) ∧
  (∀ (K : Kt QT) (n : Nat) (L : xL) (st : List Value) (S : QT), nx cod_X7_reasonOfOrder cut_X7_reasonOfOrder K (n + 1) 128 L st S = (O_aload 0 1) (nx cod_X7_reasonOfOrder cut_X7_reasonOfOrder K n) 128 L st S) ∧
  (∀ (K : Kt QT) (n : Nat) (L : xL) (st : List Value) (S : QT), nx cod_X7_reasonOfOrder cut_X7_reasonOfOrder K (n + 1) 129 L st S = (O_getf aW 7 9) (nx cod_X7_reasonOfOrder cut_X7_reasonOfOrder K n) 129 L st S) ∧
  (∀ (K : Kt QT) (n : Nat) (L : xL) (st : List Value) (S : QT), nx cod_X7_reasonOfOrder cut_X7_reasonOfOrder K (n + 1) 132 L st S = (O_callV 1 0 (fun S => S) (fun _ S' => S') sp_X7_passFault) (nx cod_X7_reasonOfOrder cut_X7_reasonOfOrder K n) 132 L st S) ∧
  (∀ (K : Kt QT) (n : Nat) (L : xL) (st : List Value) (S : QT), nx cod_X7_reasonOfOrder cut_X7_reasonOfOrder K (n + 1) 135 L st S = (O_if_eq 142) (nx cod_X7_reasonOfOrder cut_X7_reasonOfOrder K n) 135 L st S) ∧
  (∀ (K : Kt QT) (n : Nat) (L : xL) (st : List Value) (S : QT), nx cod_X7_reasonOfOrder cut_X7_reasonOfOrder K (n + 1) 138 L st S = (O_int 3 1) (nx cod_X7_reasonOfOrder cut_X7_reasonOfOrder K n) 138 L st S) ∧
  (∀ (K : Kt QT) (n : Nat) (L : xL) (st : List Value) (S : QT), nx cod_X7_reasonOfOrder cut_X7_reasonOfOrder K (n + 1) 139 L st S = (O_goto 143) (nx cod_X7_reasonOfOrder cut_X7_reasonOfOrder K n) 139 L st S) ∧
  (∀ (K : Kt QT) (n : Nat) (L : xL) (st : List Value) (S : QT), nx cod_X7_reasonOfOrder cut_X7_reasonOfOrder K (n + 1) 142 L st S = (O_int 0 1) (nx cod_X7_reasonOfOrder cut_X7_reasonOfOrder K n) 142 L st S) ∧
  (∀ (K : Kt QT) (n : Nat) (L : xL) (st : List Value) (S : QT), nx cod_X7_reasonOfOrder cut_X7_reasonOfOrder K (n + 1) 143 L st S = (O_iret) (nx cod_X7_reasonOfOrder cut_X7_reasonOfOrder K n) 143 L st S) ∧
  (∀ (K : Kt QT) (n : Nat) (L : xL) (st : List Value) (S : QT), nx cod_X7_reasonOfOrder cut_X7_reasonOfOrder K (n + 1) 144 L st S = (O_aload 0 1) (nx cod_X7_reasonOfOrder cut_X7_reasonOfOrder K n) 144 L st S) ∧
  (∀ (K : Kt QT) (n : Nat) (L : xL) (st : List Value) (S : QT), nx cod_X7_reasonOfOrder cut_X7_reasonOfOrder K (n + 1) 145 L st S = (O_getf aW 7 0) (nx cod_X7_reasonOfOrder cut_X7_reasonOfOrder K n) 145 L st S) ∧
  (∀ (K : Kt QT) (n : Nat) (L : xL) (st : List Value) (S : QT), nx cod_X7_reasonOfOrder cut_X7_reasonOfOrder K (n + 1) 148 L st S = (O_int 6 2) (nx cod_X7_reasonOfOrder cut_X7_reasonOfOrder K n) 148 L st S) ∧
  (∀ (K : Kt QT) (n : Nat) (L : xL) (st : List Value) (S : QT), nx cod_X7_reasonOfOrder cut_X7_reasonOfOrder K (n + 1) 150 L st S = (O_ald aW 0) (nx cod_X7_reasonOfOrder cut_X7_reasonOfOrder K n) 150 L st S) ∧
  (∀ (K : Kt QT) (n : Nat) (L : xL) (st : List Value) (S : QT), nx cod_X7_reasonOfOrder cut_X7_reasonOfOrder K (n + 1) 151 L st S = (O_if_ne 158) (nx cod_X7_reasonOfOrder cut_X7_reasonOfOrder K n) 151 L st S) ∧
  (∀ (K : Kt QT) (n : Nat) (L : xL) (st : List Value) (S : QT), nx cod_X7_reasonOfOrder cut_X7_reasonOfOrder K (n + 1) 154 L st S = (O_int 3 1) (nx cod_X7_reasonOfOrder cut_X7_reasonOfOrder K n) 154 L st S) ∧
  (∀ (K : Kt QT) (n : Nat) (L : xL) (st : List Value) (S : QT), nx cod_X7_reasonOfOrder cut_X7_reasonOfOrder K (n + 1) 155 L st S = (O_goto 159) (nx cod_X7_reasonOfOrder cut_X7_reasonOfOrder K n) 155 L st S) ∧
  (∀ (K : Kt QT) (n : Nat) (L : xL) (st : List Value) (S : QT), nx cod_X7_reasonOfOrder cut_X7_reasonOfOrder K (n + 1) 158 L st S = (O_int 0 1) (nx cod_X7_reasonOfOrder cut_X7_reasonOfOrder K n) 158 L st S) ∧
  (∀ (K : Kt QT) (n : Nat) (L : xL) (st : List Value) (S : QT), nx cod_X7_reasonOfOrder cut_X7_reasonOfOrder K (n + 1) 159 L st S = (O_iret) (nx cod_X7_reasonOfOrder cut_X7_reasonOfOrder K n) 159 L st S) ∧
  (∀ (K : Kt QT) (n : Nat) (L : xL) (st : List Value) (S : QT), nx cod_X7_reasonOfOrder cut_X7_reasonOfOrder K (n + 1) 100000 L st S = K 100000 L st S) := by
  repeat' apply And.intro
  all_goals (intros; rfl)
set_option maxRecDepth 100000 in
theorem mk_X7_reasonOfOrder {P P' : QT} {r : Option Value}  (body : ∀ E : En, CodOk E aW cod_X7_reasonOfOrder → Gd E aW 100000 [] r.toList P' → Gd E aW 0 [some (.ref 0)] [] P) : Con yX7_reasonOfOrder cX7_reasonOfOrder 1 (some .int) 2 aW [.ref 0] P r P' :=
  Con.of (by decide) ((aW_len P').trans (aW_len P).symm) rfl (Nat.le_of_ble_eq_true rfl) (fun E F G hr => body E (okc_X7_reasonOfOrder F G) hr)
set_option maxRecDepth 10000 in
theorem con_X7_reasonOfOrder (S : ST) (M : MT) (fl : Bool)  (hp : S.inv 1 ∧ let5 M.order = true) : Con yX7_reasonOfOrder cX7_reasonOfOrder 1 (some .int) 2 aW [.ref 0] (S, M, fl) (some (.int ((S.order M.order M.number).1))) ((S, M, fl)) := by
  refine mk_X7_reasonOfOrder (fun E C hr => ?_)
  obtain ⟨hi, hl⟩ := hp
  have hP := hi.1
  have ho := hi.1.1
  have hz := hi.2.1.1
  have hb := hi.2.1.2.1
  obtain ⟨e1, e2, e3, e4, e5⟩ := order_eq S M.number
  obtain ⟨z1, z2, z3⟩ := tZone_eq S M.number 1
  obtain ⟨y1, y2, y3⟩ := tZone_eq S M.number 0
  obtain ⟨s1, s2, s3⟩ := tStop_eq S M.number
  obtain ⟨p1, p2⟩ := tPass_eq S M.number
  rcases let5_o hl with c | c | c | c | c
  · rw [c, e1] at hr
    by_cases d : S.Z.has M.number = true
    · obtain ⟨i, hi8, ei, hv, q⟩ := op2 hi.2.1 d
      rcases q with ⟨q1, q2⟩ | ⟨q1, q2⟩
      · rw [z3 d (by rw [ei, q1]; decide)] at hr
        (refine nx_ok C (cuts := cut_X7_reasonOfOrder) 1000 _ _ _ _ ?_; simp only [w_X7_reasonOfOrder, ops_eq, xst_eq, call_eq, oK_eq, Option.toList_some, Option.toList_none, List.cons_append, List.nil_append, List.length_cons, List.length_nil, true_and, and_true, Nat.reduceAdd, aW_F, aW_A, aW_P, aW_w, abs_eq, O_asti_eq, v170, cl_eq, ST_id, MT_gs, ST_gs, PT_gs, ZT_gs, NT_gs, ET_gs, se_X7_isZone, se_X7_isOpen, se_X7_isPump, se_X7_of, se_X7_passFault, bI_eq, c, d, hz, hb, hv, ei, q2])
        ((repeat' (with_reducible first | apply And.intro | intro _)) <;> first | (with_reducible assumption) | (with_reducible exact Nat.zero_le _) | contradiction | (simp only [Option.toList_none, Option.toList_some] at hr; with_reducible assumption) | (simp_all; done) | assumption)
      · rw [z2 d (by rw [ei, q1])] at hr
        (refine nx_ok C (cuts := cut_X7_reasonOfOrder) 1000 _ _ _ _ ?_; simp only [w_X7_reasonOfOrder, ops_eq, xst_eq, call_eq, oK_eq, Option.toList_some, Option.toList_none, List.cons_append, List.nil_append, List.length_cons, List.length_nil, true_and, and_true, Nat.reduceAdd, aW_F, aW_A, aW_P, aW_w, abs_eq, O_asti_eq, v170, cl_eq, ST_id, MT_gs, ST_gs, PT_gs, ZT_gs, NT_gs, ET_gs, se_X7_isZone, se_X7_isOpen, se_X7_isPump, se_X7_of, se_X7_passFault, bI_eq, c, d, hz, hb, hv, ei, q2])
        ((repeat' (with_reducible first | apply And.intro | intro _)) <;> first | (with_reducible assumption) | (with_reducible exact Nat.zero_le _) | contradiction | (simp only [Option.toList_none, Option.toList_some] at hr; with_reducible assumption) | (simp_all; done) | assumption)
    · have d := bnot d
      rw [z1 d] at hr
      (refine nx_ok C (cuts := cut_X7_reasonOfOrder) 1000 _ _ _ _ ?_; simp only [w_X7_reasonOfOrder, ops_eq, xst_eq, call_eq, oK_eq, Option.toList_some, Option.toList_none, List.cons_append, List.nil_append, List.length_cons, List.length_nil, true_and, and_true, Nat.reduceAdd, aW_F, aW_A, aW_P, aW_w, abs_eq, O_asti_eq, v170, cl_eq, ST_id, MT_gs, ST_gs, PT_gs, ZT_gs, NT_gs, ET_gs, se_X7_isZone, se_X7_isOpen, se_X7_isPump, se_X7_of, se_X7_passFault, bI_eq, c, d, hz])
      ((repeat' (with_reducible first | apply And.intro | intro _)) <;> first | (with_reducible assumption) | (with_reducible exact Nat.zero_le _) | contradiction | (simp only [Option.toList_none, Option.toList_some] at hr; with_reducible assumption) | (simp_all; done) | assumption)
  · rw [c, e2] at hr
    by_cases d : S.Z.has M.number = true
    · obtain ⟨i, hi8, ei, hv, q⟩ := op2 hi.2.1 d
      rcases q with ⟨q1, q2⟩ | ⟨q1, q2⟩
      · rw [y2 d (by rw [ei, q1])] at hr
        (refine nx_ok C (cuts := cut_X7_reasonOfOrder) 1000 _ _ _ _ ?_; simp only [w_X7_reasonOfOrder, ops_eq, xst_eq, call_eq, oK_eq, Option.toList_some, Option.toList_none, List.cons_append, List.nil_append, List.length_cons, List.length_nil, true_and, and_true, Nat.reduceAdd, aW_F, aW_A, aW_P, aW_w, abs_eq, O_asti_eq, v170, cl_eq, ST_id, MT_gs, ST_gs, PT_gs, ZT_gs, NT_gs, ET_gs, se_X7_isZone, se_X7_isOpen, se_X7_isPump, se_X7_of, se_X7_passFault, bI_eq, c, d, hz, hb, hv, ei, q2])
        ((repeat' (with_reducible first | apply And.intro | intro _)) <;> first | (with_reducible assumption) | (with_reducible exact Nat.zero_le _) | contradiction | (simp only [Option.toList_none, Option.toList_some] at hr; with_reducible assumption) | (simp_all; done) | assumption)
      · rw [y3 d (by rw [ei, q1]; decide)] at hr
        (refine nx_ok C (cuts := cut_X7_reasonOfOrder) 1000 _ _ _ _ ?_; simp only [w_X7_reasonOfOrder, ops_eq, xst_eq, call_eq, oK_eq, Option.toList_some, Option.toList_none, List.cons_append, List.nil_append, List.length_cons, List.length_nil, true_and, and_true, Nat.reduceAdd, aW_F, aW_A, aW_P, aW_w, abs_eq, O_asti_eq, v170, cl_eq, ST_id, MT_gs, ST_gs, PT_gs, ZT_gs, NT_gs, ET_gs, se_X7_isZone, se_X7_isOpen, se_X7_isPump, se_X7_of, se_X7_passFault, bI_eq, c, d, hz, hb, hv, ei, q2])
        ((repeat' (with_reducible first | apply And.intro | intro _)) <;> first | (with_reducible assumption) | (with_reducible exact Nat.zero_le _) | contradiction | (simp only [Option.toList_none, Option.toList_some] at hr; with_reducible assumption) | (simp_all; done) | assumption)
    · have d := bnot d
      rw [y1 d] at hr
      (refine nx_ok C (cuts := cut_X7_reasonOfOrder) 1000 _ _ _ _ ?_; simp only [w_X7_reasonOfOrder, ops_eq, xst_eq, call_eq, oK_eq, Option.toList_some, Option.toList_none, List.cons_append, List.nil_append, List.length_cons, List.length_nil, true_and, and_true, Nat.reduceAdd, aW_F, aW_A, aW_P, aW_w, abs_eq, O_asti_eq, v170, cl_eq, ST_id, MT_gs, ST_gs, PT_gs, ZT_gs, NT_gs, ET_gs, se_X7_isZone, se_X7_isOpen, se_X7_isPump, se_X7_of, se_X7_passFault, bI_eq, c, d, hz])
      ((repeat' (with_reducible first | apply And.intro | intro _)) <;> first | (with_reducible assumption) | (with_reducible exact Nat.zero_le _) | contradiction | (simp only [Option.toList_none, Option.toList_some] at hr; with_reducible assumption) | (simp_all; done) | assumption)
  · rw [c, e3] at hr
    by_cases d : S.P.has M.number = true
    · have hv := PT.has_in ho d
      by_cases q : S.P.inService M.number.toNatClampNeg = 0
      · rw [s2 d q] at hr
        (refine nx_ok C (cuts := cut_X7_reasonOfOrder) 1000 _ _ _ _ ?_; simp only [w_X7_reasonOfOrder, ops_eq, xst_eq, call_eq, oK_eq, Option.toList_some, Option.toList_none, List.cons_append, List.nil_append, List.length_cons, List.length_nil, true_and, and_true, Nat.reduceAdd, aW_F, aW_A, aW_P, aW_w, abs_eq, O_asti_eq, v170, cl_eq, ST_id, MT_gs, ST_gs, PT_gs, ZT_gs, NT_gs, ET_gs, se_X7_isZone, se_X7_isOpen, se_X7_isPump, se_X7_of, se_X7_passFault, bI_eq, c, d, ho, hv, v8_eq, get_eq, q])
        ((repeat' (with_reducible first | apply And.intro | intro _)) <;> first | (with_reducible assumption) | (with_reducible exact Nat.zero_le _) | contradiction | (simp only [Option.toList_none, Option.toList_some] at hr; with_reducible assumption) | (simp_all; done) | assumption)
      · rw [s3 d q] at hr
        (refine nx_ok C (cuts := cut_X7_reasonOfOrder) 1000 _ _ _ _ ?_; simp only [w_X7_reasonOfOrder, ops_eq, xst_eq, call_eq, oK_eq, Option.toList_some, Option.toList_none, List.cons_append, List.nil_append, List.length_cons, List.length_nil, true_and, and_true, Nat.reduceAdd, aW_F, aW_A, aW_P, aW_w, abs_eq, O_asti_eq, v170, cl_eq, ST_id, MT_gs, ST_gs, PT_gs, ZT_gs, NT_gs, ET_gs, se_X7_isZone, se_X7_isOpen, se_X7_isPump, se_X7_of, se_X7_passFault, bI_eq, c, d, ho, hv, v8_eq, get_eq, q])
        ((repeat' (with_reducible first | apply And.intro | intro _)) <;> first | (with_reducible assumption) | (with_reducible exact Nat.zero_le _) | contradiction | (simp only [Option.toList_none, Option.toList_some] at hr; with_reducible assumption) | (simp_all; done) | assumption)
    · have d := bnot d
      rw [s1 d] at hr
      (refine nx_ok C (cuts := cut_X7_reasonOfOrder) 1000 _ _ _ _ ?_; simp only [w_X7_reasonOfOrder, ops_eq, xst_eq, call_eq, oK_eq, Option.toList_some, Option.toList_none, List.cons_append, List.nil_append, List.length_cons, List.length_nil, true_and, and_true, Nat.reduceAdd, aW_F, aW_A, aW_P, aW_w, abs_eq, O_asti_eq, v170, cl_eq, ST_id, MT_gs, ST_gs, PT_gs, ZT_gs, NT_gs, ET_gs, se_X7_isZone, se_X7_isOpen, se_X7_isPump, se_X7_of, se_X7_passFault, bI_eq, c, d, ho])
      ((repeat' (with_reducible first | apply And.intro | intro _)) <;> first | (with_reducible assumption) | (with_reducible exact Nat.zero_le _) | contradiction | (simp only [Option.toList_none, Option.toList_some] at hr; with_reducible assumption) | (simp_all; done) | assumption)
  · rw [c, e4] at hr
    by_cases d : pfault S M.number = 0
    · rw [p1 d] at hr
      (refine nx_ok C (cuts := cut_X7_reasonOfOrder) 1000 _ _ _ _ ?_; simp only [w_X7_reasonOfOrder, ops_eq, xst_eq, call_eq, oK_eq, Option.toList_some, Option.toList_none, List.cons_append, List.nil_append, List.length_cons, List.length_nil, true_and, and_true, Nat.reduceAdd, aW_F, aW_A, aW_P, aW_w, abs_eq, O_asti_eq, v170, cl_eq, ST_id, MT_gs, ST_gs, PT_gs, ZT_gs, NT_gs, ET_gs, se_X7_isZone, se_X7_isOpen, se_X7_isPump, se_X7_of, se_X7_passFault, bI_eq, c, d])
      ((repeat' (with_reducible first | apply And.intro | intro _)) <;> first | (with_reducible assumption) | (with_reducible exact Nat.zero_le _) | contradiction | (simp only [Option.toList_none, Option.toList_some] at hr; with_reducible assumption) | (simp_all; done) | assumption)
    · rw [p2 d] at hr
      (refine nx_ok C (cuts := cut_X7_reasonOfOrder) 1000 _ _ _ _ ?_; simp only [w_X7_reasonOfOrder, ops_eq, xst_eq, call_eq, oK_eq, Option.toList_some, Option.toList_none, List.cons_append, List.nil_append, List.length_cons, List.length_nil, true_and, and_true, Nat.reduceAdd, aW_F, aW_A, aW_P, aW_w, abs_eq, O_asti_eq, v170, cl_eq, ST_id, MT_gs, ST_gs, PT_gs, ZT_gs, NT_gs, ET_gs, se_X7_isZone, se_X7_isOpen, se_X7_isPump, se_X7_of, se_X7_passFault, bI_eq, c, d])
      ((repeat' (with_reducible first | apply And.intro | intro _)) <;> first | (with_reducible assumption) | (with_reducible exact Nat.zero_le _) | contradiction | (simp only [Option.toList_none, Option.toList_some] at hr; with_reducible assumption) | (simp_all; done) | assumption)
  · rw [c, e5] at hr
    unfold ST.tReset at hr
    by_cases d : S.trips = 0
    · rw [if_pos d] at hr
      (refine nx_ok C (cuts := cut_X7_reasonOfOrder) 1000 _ _ _ _ ?_; simp only [w_X7_reasonOfOrder, ops_eq, xst_eq, call_eq, oK_eq, Option.toList_some, Option.toList_none, List.cons_append, List.nil_append, List.length_cons, List.length_nil, true_and, and_true, Nat.reduceAdd, aW_F, aW_A, aW_P, aW_w, abs_eq, O_asti_eq, v170, cl_eq, ST_id, MT_gs, ST_gs, PT_gs, ZT_gs, NT_gs, ET_gs, se_X7_isZone, se_X7_isOpen, se_X7_isPump, se_X7_of, se_X7_passFault, bI_eq, c, d])
      ((repeat' (with_reducible first | apply And.intro | intro _)) <;> first | (with_reducible assumption) | (with_reducible exact Nat.zero_le _) | contradiction | (simp only [Option.toList_none, Option.toList_some] at hr; with_reducible assumption) | (simp_all; done) | assumption)
    · rw [if_neg d] at hr
      (refine nx_ok C (cuts := cut_X7_reasonOfOrder) 1000 _ _ _ _ ?_; simp only [w_X7_reasonOfOrder, ops_eq, xst_eq, call_eq, oK_eq, Option.toList_some, Option.toList_none, List.cons_append, List.nil_append, List.length_cons, List.length_nil, true_and, and_true, Nat.reduceAdd, aW_F, aW_A, aW_P, aW_w, abs_eq, O_asti_eq, v170, cl_eq, ST_id, MT_gs, ST_gs, PT_gs, ZT_gs, NT_gs, ET_gs, se_X7_isZone, se_X7_isOpen, se_X7_isPump, se_X7_of, se_X7_passFault, bI_eq, c, d])
      ((repeat' (with_reducible first | apply And.intro | intro _)) <;> first | (with_reducible assumption) | (with_reducible exact Nat.zero_le _) | contradiction | (simp only [Option.toList_none, Option.toList_some] at hr; with_reducible assumption) | (simp_all; done) | assumption)
def spc_X7_reasonOfOrder (S : ST) (M : MT) (fl : Bool)  (K : Option Value → QT → Prop) : Prop := (S.inv 1 ∧ let5 M.order = true) ∧ K (some (.int ((S.order M.order M.number).1))) ((S, M, fl))
def sp_X7_reasonOfOrder : Sp QT := fun av q K => match av with
  | [.ref 0] => spc_X7_reasonOfOrder q.1 q.2.1 q.2.2  K
  | _ => False
theorem se_X7_reasonOfOrder (S : ST) (M : MT) (fl : Bool)  (K : Option Value → QT → Prop) : sp_X7_reasonOfOrder [.ref 0] (S, M, fl) K = ((S.inv 1 ∧ let5 M.order = true) ∧ K (some (.int ((S.order M.order M.number).1))) ((S, M, fl))) := rfl
theorem spok_X7_reasonOfOrder : SpOk yX7_reasonOfOrder cX7_reasonOfOrder 1 (some .int) 2 aW sp_X7_reasonOfOrder := by
  intro av q K h
  unfold sp_X7_reasonOfOrder at h
  split at h
  · refine ⟨_, _, ?_, con_X7_reasonOfOrder q.1 q.2.1 q.2.2  h.1, h.2⟩; trivial
  · exact h.elim
def MT.doM (M : MT) (S : ST) : MT := M.sSeen (if M.order = 112 then sawN S M.seen M.number.toNatClampNeg else if M.order = 115 then (M.evs false (S.P.runs M.number) 1).seen else if M.order = 114 then (M.evs false (decide (¬ S.dry = 0 ∧ ¬ S.level < S.settings 12)) 5).seen else M.seen)
theorem evs_seen (M : MT) (fl c : Bool) (k : Int32) : M.sSeen (M.evs fl c k).seen = M.evs fl c k := by
  unfold MT.evs MT.ev
  cases c
  · rfl
  · cases fl <;> rfl
theorem PT.serv_bit {S : PT} (h : S.inv) {p : Int32} (hh : S.has p = true) : (¬ S.inService p.toNatClampNeg = 0) = (S.inService p.toNatClampNeg = 1) := by
  obtain ⟨i, hi, e1, e2⟩ := PT.has_n h.1 hh
  rw [e2]
  exact dry_b (h.2.1 i hi).2.2.2.1
def cod_X7_does : List (Nat × Op QT) := [(0, O_aload 0 1), (1, O_getf aW 7 8), (4, O_int 111 2), (6, O_icmp_eq 18), (9, O_aload 0 1), (10, O_getf aW 7 8), (13, O_int 99 2), (15, O_icmp_ne 51), (18, O_aload 0 1), (19, O_getf aW 7 0), (22, O_int 87 2), (24, O_int 2 1), (25, O_aload 0 1), (26, O_getf aW 7 9), (29, O_imul), (30, O_iadd), (31, O_int 1 1), (32, O_iadd), (33, O_aload 0 1), (34, O_getf aW 7 8), (37, O_int 111 2), (39, O_icmp_ne 46), (42, O_int 1 1), (43, O_goto 47), (46, O_int 0 1), (47, O_asti aW aW_wi), (48, O_goto 98), (51, O_aload 0 1), (52, O_getf aW 7 8), (55, O_int 115 2), (57, O_icmp_ne 73), (60, O_aload 0 1), (61, O_aload 0 1), (62, O_getf aW 7 9), (65, O_int 0 1), (66, O_callV 2 0 (fun S => S) (fun _ S' => S') sp_X7_serves), (69, O_istore 1 1), (70, O_goto 98), (73, O_aload 0 1), (74, O_getf aW 7 8), (77, O_int 112 2), (79, O_icmp_ne 93), (82, O_aload 0 1), (83, O_aload 0 1), (84, O_getf aW 7 9), (87, O_callV 1 0 (fun S => S) (fun _ S' => S') sp_X7_minutes), (90, O_goto 98), (93, O_aload 0 1), (94, O_callV 0 0 (fun S => S) (fun _ S' => S') sp_X7_resets), (97, O_istore 1 1), (98, O_vret)]
abbrev cut_X7_does : List Nat := []
set_option maxRecDepth 100000 in
theorem okc_X7_does {E : En} (F : Fx E RX7 cX7_does 2 8) (G : Fr E none) : CodOk E aW cod_X7_does := by
  unfold CodOk cod_X7_does
  refine List.forall_mem_cons.mpr ⟨ok_aload_n F dX7_does_0 rfl (by decide), ?_⟩
  refine List.forall_mem_cons.mpr ⟨ok_getf F flX7_251 dX7_does_1 (by decide), ?_⟩
  refine List.forall_mem_cons.mpr ⟨ok_bipush F dX7_does_4 (by decide) (by decide), ?_⟩
  refine List.forall_mem_cons.mpr ⟨ok_icmp_eq F dX7_does_6 (by decide) (by decide) (by decide), ?_⟩
  refine List.forall_mem_cons.mpr ⟨ok_aload_n F dX7_does_9 rfl (by decide), ?_⟩
  refine List.forall_mem_cons.mpr ⟨ok_getf F flX7_251 dX7_does_10 (by decide), ?_⟩
  refine List.forall_mem_cons.mpr ⟨ok_bipush F dX7_does_13 (by decide) (by decide), ?_⟩
  refine List.forall_mem_cons.mpr ⟨ok_icmp_ne F dX7_does_15 (by decide) (by decide) (by decide), ?_⟩
  refine List.forall_mem_cons.mpr ⟨ok_aload_n F dX7_does_18 rfl (by decide), ?_⟩
  refine List.forall_mem_cons.mpr ⟨ok_getf F flX7_7 dX7_does_19 (by decide), ?_⟩
  refine List.forall_mem_cons.mpr ⟨ok_bipush F dX7_does_22 (by decide) (by decide), ?_⟩
  refine List.forall_mem_cons.mpr ⟨ok_iconst F dX7_does_24 (by decide) (by decide), ?_⟩
  refine List.forall_mem_cons.mpr ⟨ok_aload_n F dX7_does_25 rfl (by decide), ?_⟩
  refine List.forall_mem_cons.mpr ⟨ok_getf F flX7_254 dX7_does_26 (by decide), ?_⟩
  refine List.forall_mem_cons.mpr ⟨ok_imul F dX7_does_29 (by decide), ?_⟩
  refine List.forall_mem_cons.mpr ⟨ok_iadd F dX7_does_30 (by decide), ?_⟩
  refine List.forall_mem_cons.mpr ⟨ok_iconst F dX7_does_31 (by decide) (by decide), ?_⟩
  refine List.forall_mem_cons.mpr ⟨ok_iadd F dX7_does_32 (by decide), ?_⟩
  refine List.forall_mem_cons.mpr ⟨ok_aload_n F dX7_does_33 rfl (by decide), ?_⟩
  refine List.forall_mem_cons.mpr ⟨ok_getf F flX7_251 dX7_does_34 (by decide), ?_⟩
  refine List.forall_mem_cons.mpr ⟨ok_bipush F dX7_does_37 (by decide) (by decide), ?_⟩
  refine List.forall_mem_cons.mpr ⟨ok_icmp_ne F dX7_does_39 (by decide) (by decide) (by decide), ?_⟩
  refine List.forall_mem_cons.mpr ⟨ok_iconst F dX7_does_42 (by decide) (by decide), ?_⟩
  refine List.forall_mem_cons.mpr ⟨ok_goto F dX7_does_43 (by decide) (by decide) (by decide), ?_⟩
  refine List.forall_mem_cons.mpr ⟨ok_iconst F dX7_does_46 (by decide) (by decide), ?_⟩
  refine List.forall_mem_cons.mpr ⟨ok_asti F aW_wok dX7_does_47 (by decide), ?_⟩
  refine List.forall_mem_cons.mpr ⟨ok_goto F dX7_does_48 (by decide) (by decide) (by decide), ?_⟩
  refine List.forall_mem_cons.mpr ⟨ok_aload_n F dX7_does_51 rfl (by decide), ?_⟩
  refine List.forall_mem_cons.mpr ⟨ok_getf F flX7_251 dX7_does_52 (by decide), ?_⟩
  refine List.forall_mem_cons.mpr ⟨ok_bipush F dX7_does_55 (by decide) (by decide), ?_⟩
  refine List.forall_mem_cons.mpr ⟨ok_icmp_ne F dX7_does_57 (by decide) (by decide) (by decide), ?_⟩
  refine List.forall_mem_cons.mpr ⟨ok_aload_n F dX7_does_60 rfl (by decide), ?_⟩
  refine List.forall_mem_cons.mpr ⟨ok_aload_n F dX7_does_61 rfl (by decide), ?_⟩
  refine List.forall_mem_cons.mpr ⟨ok_getf F flX7_254 dX7_does_62 (by decide), ?_⟩
  refine List.forall_mem_cons.mpr ⟨ok_iconst F dX7_does_65 (by decide) (by decide), ?_⟩
  refine List.forall_mem_cons.mpr ⟨ok_callV F spok_X7_serves (ln_id aW) rcv_aW (by decide +kernel) (by decide) dX7_does_66 (by decide), ?_⟩
  refine List.forall_mem_cons.mpr ⟨ok_istore_n F dX7_does_69 rfl (by decide) (by decide), ?_⟩
  refine List.forall_mem_cons.mpr ⟨ok_goto F dX7_does_70 (by decide) (by decide) (by decide), ?_⟩
  refine List.forall_mem_cons.mpr ⟨ok_aload_n F dX7_does_73 rfl (by decide), ?_⟩
  refine List.forall_mem_cons.mpr ⟨ok_getf F flX7_251 dX7_does_74 (by decide), ?_⟩
  refine List.forall_mem_cons.mpr ⟨ok_bipush F dX7_does_77 (by decide) (by decide), ?_⟩
  refine List.forall_mem_cons.mpr ⟨ok_icmp_ne F dX7_does_79 (by decide) (by decide) (by decide), ?_⟩
  refine List.forall_mem_cons.mpr ⟨ok_aload_n F dX7_does_82 rfl (by decide), ?_⟩
  refine List.forall_mem_cons.mpr ⟨ok_aload_n F dX7_does_83 rfl (by decide), ?_⟩
  refine List.forall_mem_cons.mpr ⟨ok_getf F flX7_254 dX7_does_84 (by decide), ?_⟩
  refine List.forall_mem_cons.mpr ⟨ok_callV F spok_X7_minutes (ln_id aW) rcv_aW (by decide +kernel) (by decide) dX7_does_87 (by decide), ?_⟩
  refine List.forall_mem_cons.mpr ⟨ok_goto F dX7_does_90 (by decide) (by decide) (by decide), ?_⟩
  refine List.forall_mem_cons.mpr ⟨ok_aload_n F dX7_does_93 rfl (by decide), ?_⟩
  refine List.forall_mem_cons.mpr ⟨ok_callV F spok_X7_resets (ln_id aW) rcv_aW (by decide +kernel) (by decide) dX7_does_94 (by decide), ?_⟩
  refine List.forall_mem_cons.mpr ⟨ok_istore_n F dX7_does_97 rfl (by decide) (by decide), ?_⟩
  refine List.forall_mem_cons.mpr ⟨ok_vret F G dX7_does_98 (by decide), ?_⟩
  exact fun _ h => absurd h List.not_mem_nil
set_option maxRecDepth 100000 in
theorem w_X7_does : (∀ (K : Kt QT) (n : Nat) (L : xL) (st : List Value) (S : QT), nx cod_X7_does cut_X7_does K (n + 1) 0 L st S = (O_aload 0 1) (nx cod_X7_does cut_X7_does K n) 0 L st S) ∧
  (∀ (K : Kt QT) (n : Nat) (L : xL) (st : List Value) (S : QT), nx cod_X7_does cut_X7_does K (n + 1) 1 L st S = (O_getf aW 7 8) (nx cod_X7_does cut_X7_does K n) 1 L st S) ∧
  (∀ (K : Kt QT) (n : Nat) (L : xL) (st : List Value) (S : QT), nx cod_X7_does cut_X7_does K (n + 1) 4 L st S = (O_int 111 2) (nx cod_X7_does cut_X7_does K n) 4 L st S) ∧
  (∀ (K : Kt QT) (n : Nat) (L : xL) (st : List Value) (S : QT), nx cod_X7_does cut_X7_does K (n + 1) 6 L st S = (O_icmp_eq 18) (nx cod_X7_does cut_X7_does K n) 6 L st S) ∧
  (∀ (K : Kt QT) (n : Nat) (L : xL) (st : List Value) (S : QT), nx cod_X7_does cut_X7_does K (n + 1) 9 L st S = (O_aload 0 1) (nx cod_X7_does cut_X7_does K n) 9 L st S) ∧
  (∀ (K : Kt QT) (n : Nat) (L : xL) (st : List Value) (S : QT), nx cod_X7_does cut_X7_does K (n + 1) 10 L st S = (O_getf aW 7 8) (nx cod_X7_does cut_X7_does K n) 10 L st S) ∧
  (∀ (K : Kt QT) (n : Nat) (L : xL) (st : List Value) (S : QT), nx cod_X7_does cut_X7_does K (n + 1) 13 L st S = (O_int 99 2) (nx cod_X7_does cut_X7_does K n) 13 L st S) ∧
  (∀ (K : Kt QT) (n : Nat) (L : xL) (st : List Value) (S : QT), nx cod_X7_does cut_X7_does K (n + 1) 15 L st S = (O_icmp_ne 51) (nx cod_X7_does cut_X7_does K n) 15 L st S) ∧
  (∀ (K : Kt QT) (n : Nat) (L : xL) (st : List Value) (S : QT), nx cod_X7_does cut_X7_does K (n + 1) 18 L st S = (O_aload 0 1) (nx cod_X7_does cut_X7_does K n) 18 L st S) ∧
  (∀ (K : Kt QT) (n : Nat) (L : xL) (st : List Value) (S : QT), nx cod_X7_does cut_X7_does K (n + 1) 19 L st S = (O_getf aW 7 0) (nx cod_X7_does cut_X7_does K n) 19 L st S) ∧
  (∀ (K : Kt QT) (n : Nat) (L : xL) (st : List Value) (S : QT), nx cod_X7_does cut_X7_does K (n + 1) 22 L st S = (O_int 87 2) (nx cod_X7_does cut_X7_does K n) 22 L st S) ∧
  (∀ (K : Kt QT) (n : Nat) (L : xL) (st : List Value) (S : QT), nx cod_X7_does cut_X7_does K (n + 1) 24 L st S = (O_int 2 1) (nx cod_X7_does cut_X7_does K n) 24 L st S) ∧
  (∀ (K : Kt QT) (n : Nat) (L : xL) (st : List Value) (S : QT), nx cod_X7_does cut_X7_does K (n + 1) 25 L st S = (O_aload 0 1) (nx cod_X7_does cut_X7_does K n) 25 L st S) ∧
  (∀ (K : Kt QT) (n : Nat) (L : xL) (st : List Value) (S : QT), nx cod_X7_does cut_X7_does K (n + 1) 26 L st S = (O_getf aW 7 9) (nx cod_X7_does cut_X7_does K n) 26 L st S) ∧
  (∀ (K : Kt QT) (n : Nat) (L : xL) (st : List Value) (S : QT), nx cod_X7_does cut_X7_does K (n + 1) 29 L st S = (O_imul) (nx cod_X7_does cut_X7_does K n) 29 L st S) ∧
  (∀ (K : Kt QT) (n : Nat) (L : xL) (st : List Value) (S : QT), nx cod_X7_does cut_X7_does K (n + 1) 30 L st S = (O_iadd) (nx cod_X7_does cut_X7_does K n) 30 L st S) ∧
  (∀ (K : Kt QT) (n : Nat) (L : xL) (st : List Value) (S : QT), nx cod_X7_does cut_X7_does K (n + 1) 31 L st S = (O_int 1 1) (nx cod_X7_does cut_X7_does K n) 31 L st S) ∧
  (∀ (K : Kt QT) (n : Nat) (L : xL) (st : List Value) (S : QT), nx cod_X7_does cut_X7_does K (n + 1) 32 L st S = (O_iadd) (nx cod_X7_does cut_X7_does K n) 32 L st S) ∧
  (∀ (K : Kt QT) (n : Nat) (L : xL) (st : List Value) (S : QT), nx cod_X7_does cut_X7_does K (n + 1) 33 L st S = (O_aload 0 1) (nx cod_X7_does cut_X7_does K n) 33 L st S) ∧
  (∀ (K : Kt QT) (n : Nat) (L : xL) (st : List Value) (S : QT), nx cod_X7_does cut_X7_does K (n + 1) 34 L st S = (O_getf aW 7 8) (nx cod_X7_does cut_X7_does K n) 34 L st S) ∧
  (∀ (K : Kt QT) (n : Nat) (L : xL) (st : List Value) (S : QT), nx cod_X7_does cut_X7_does K (n + 1) 37 L st S = (O_int 111 2) (nx cod_X7_does cut_X7_does K n) 37 L st S) ∧
  (∀ (K : Kt QT) (n : Nat) (L : xL) (st : List Value) (S : QT), nx cod_X7_does cut_X7_does K (n + 1) 39 L st S = (O_icmp_ne 46) (nx cod_X7_does cut_X7_does K n) 39 L st S) ∧
  (∀ (K : Kt QT) (n : Nat) (L : xL) (st : List Value) (S : QT), nx cod_X7_does cut_X7_does K (n + 1) 42 L st S = (O_int 1 1) (nx cod_X7_does cut_X7_does K n) 42 L st S) ∧
  (∀ (K : Kt QT) (n : Nat) (L : xL) (st : List Value) (S : QT), nx cod_X7_does cut_X7_does K (n + 1) 43 L st S = (O_goto 47) (nx cod_X7_does cut_X7_does K n) 43 L st S) ∧
  (∀ (K : Kt QT) (n : Nat) (L : xL) (st : List Value) (S : QT), nx cod_X7_does cut_X7_does K (n + 1) 46 L st S = (O_int 0 1) (nx cod_X7_does cut_X7_does K n) 46 L st S) ∧
  (∀ (K : Kt QT) (n : Nat) (L : xL) (st : List Value) (S : QT), nx cod_X7_does cut_X7_does K (n + 1) 47 L st S = (O_asti aW aW_wi) (nx cod_X7_does cut_X7_does K n) 47 L st S) ∧
  (∀ (K : Kt QT) (n : Nat) (L : xL) (st : List Value) (S : QT), nx cod_X7_does cut_X7_does K (n + 1) 48 L st S = (O_goto 98) (nx cod_X7_does cut_X7_does K n) 48 L st S) ∧
  (∀ (K : Kt QT) (n : Nat) (L : xL) (st : List Value) (S : QT), nx cod_X7_does cut_X7_does K (n + 1) 51 L st S = (O_aload 0 1) (nx cod_X7_does cut_X7_does K n) 51 L st S) ∧
  (∀ (K : Kt QT) (n : Nat) (L : xL) (st : List Value) (S : QT), nx cod_X7_does cut_X7_does K (n + 1) 52 L st S = (O_getf aW 7 8) (nx cod_X7_does cut_X7_does K n) 52 L st S) ∧
  (∀ (K : Kt QT) (n : Nat) (L : xL) (st : List Value) (S : QT), nx cod_X7_does cut_X7_does K (n + 1) 55 L st S = (O_int 115 2) (nx cod_X7_does cut_X7_does K n) 55 L st S) ∧
  (∀ (K : Kt QT) (n : Nat) (L : xL) (st : List Value) (S : QT), nx cod_X7_does cut_X7_does K (n + 1) 57 L st S = (O_icmp_ne 73) (nx cod_X7_does cut_X7_does K n) 57 L st S) ∧
  (∀ (K : Kt QT) (n : Nat) (L : xL) (st : List Value) (S : QT), nx cod_X7_does cut_X7_does K (n + 1) 60 L st S = (O_aload 0 1) (nx cod_X7_does cut_X7_does K n) 60 L st S) ∧
  (∀ (K : Kt QT) (n : Nat) (L : xL) (st : List Value) (S : QT), nx cod_X7_does cut_X7_does K (n + 1) 61 L st S = (O_aload 0 1) (nx cod_X7_does cut_X7_does K n) 61 L st S) ∧
  (∀ (K : Kt QT) (n : Nat) (L : xL) (st : List Value) (S : QT), nx cod_X7_does cut_X7_does K (n + 1) 62 L st S = (O_getf aW 7 9) (nx cod_X7_does cut_X7_does K n) 62 L st S) ∧
  (∀ (K : Kt QT) (n : Nat) (L : xL) (st : List Value) (S : QT), nx cod_X7_does cut_X7_does K (n + 1) 65 L st S = (O_int 0 1) (nx cod_X7_does cut_X7_does K n) 65 L st S) ∧
  (∀ (K : Kt QT) (n : Nat) (L : xL) (st : List Value) (S : QT), nx cod_X7_does cut_X7_does K (n + 1) 66 L st S = (O_callV 2 0 (fun S => S) (fun _ S' => S') sp_X7_serves) (nx cod_X7_does cut_X7_does K n) 66 L st S) ∧
  (∀ (K : Kt QT) (n : Nat) (L : xL) (st : List Value) (S : QT), nx cod_X7_does cut_X7_does K (n + 1) 69 L st S = (O_istore 1 1) (nx cod_X7_does cut_X7_does K n) 69 L st S) ∧
  (∀ (K : Kt QT) (n : Nat) (L : xL) (st : List Value) (S : QT), nx cod_X7_does cut_X7_does K (n + 1) 70 L st S = (O_goto 98) (nx cod_X7_does cut_X7_does K n) 70 L st S) ∧
  (∀ (K : Kt QT) (n : Nat) (L : xL) (st : List Value) (S : QT), nx cod_X7_does cut_X7_does K (n + 1) 73 L st S = (O_aload 0 1) (nx cod_X7_does cut_X7_does K n) 73 L st S) ∧
  (∀ (K : Kt QT) (n : Nat) (L : xL) (st : List Value) (S : QT), nx cod_X7_does cut_X7_does K (n + 1) 74 L st S = (O_getf aW 7 8) (nx cod_X7_does cut_X7_does K n) 74 L st S) ∧
  (∀ (K : Kt QT) (n : Nat) (L : xL) (st : List Value) (S : QT), nx cod_X7_does cut_X7_does K (n + 1) 77 L st S = (O_int 112 2) (nx cod_X7_does cut_X7_does K n) 77 L st S) ∧
  (∀ (K : Kt QT) (n : Nat) (L : xL) (st : List Value) (S : QT), nx cod_X7_does cut_X7_does K (n + 1) 79 L st S = (O_icmp_ne 93) (nx cod_X7_does cut_X7_does K n) 79 L st S) ∧
  (∀ (K : Kt QT) (n : Nat) (L : xL) (st : List Value) (S : QT), nx cod_X7_does cut_X7_does K (n + 1) 82 L st S = (O_aload 0 1) (nx cod_X7_does cut_X7_does K n) 82 L st S) ∧
  (∀ (K : Kt QT) (n : Nat) (L : xL) (st : List Value) (S : QT), nx cod_X7_does cut_X7_does K (n + 1) 83 L st S = (O_aload 0 1) (nx cod_X7_does cut_X7_does K n) 83 L st S) ∧
  (∀ (K : Kt QT) (n : Nat) (L : xL) (st : List Value) (S : QT), nx cod_X7_does cut_X7_does K (n + 1) 84 L st S = (O_getf aW 7 9) (nx cod_X7_does cut_X7_does K n) 84 L st S) ∧
  (∀ (K : Kt QT) (n : Nat) (L : xL) (st : List Value) (S : QT), nx cod_X7_does cut_X7_does K (n + 1) 87 L st S = (O_callV 1 0 (fun S => S) (fun _ S' => S') sp_X7_minutes) (nx cod_X7_does cut_X7_does K n) 87 L st S) ∧
  (∀ (K : Kt QT) (n : Nat) (L : xL) (st : List Value) (S : QT), nx cod_X7_does cut_X7_does K (n + 1) 90 L st S = (O_goto 98) (nx cod_X7_does cut_X7_does K n) 90 L st S) ∧
  (∀ (K : Kt QT) (n : Nat) (L : xL) (st : List Value) (S : QT), nx cod_X7_does cut_X7_does K (n + 1) 93 L st S = (O_aload 0 1) (nx cod_X7_does cut_X7_does K n) 93 L st S) ∧
  (∀ (K : Kt QT) (n : Nat) (L : xL) (st : List Value) (S : QT), nx cod_X7_does cut_X7_does K (n + 1) 94 L st S = (O_callV 0 0 (fun S => S) (fun _ S' => S') sp_X7_resets) (nx cod_X7_does cut_X7_does K n) 94 L st S) ∧
  (∀ (K : Kt QT) (n : Nat) (L : xL) (st : List Value) (S : QT), nx cod_X7_does cut_X7_does K (n + 1) 97 L st S = (O_istore 1 1) (nx cod_X7_does cut_X7_does K n) 97 L st S) ∧
  (∀ (K : Kt QT) (n : Nat) (L : xL) (st : List Value) (S : QT), nx cod_X7_does cut_X7_does K (n + 1) 98 L st S = (O_vret) (nx cod_X7_does cut_X7_does K n) 98 L st S) ∧
  (∀ (K : Kt QT) (n : Nat) (L : xL) (st : List Value) (S : QT), nx cod_X7_does cut_X7_does K (n + 1) 100000 L st S = K 100000 L st S) := by
  repeat' apply And.intro
  all_goals (intros; rfl)
set_option maxRecDepth 100000 in
theorem mk_X7_does {P P' : QT} {r : Option Value}  (body : ∀ E : En, CodOk E aW cod_X7_does → Gd E aW 100000 [] r.toList P' → Gd E aW 0 [some (.ref 0), none] [] P) : Con yX7_does cX7_does 2 none 8 aW [.ref 0] P r P' :=
  Con.of (by decide) ((aW_len P').trans (aW_len P).symm) rfl (Nat.le_of_ble_eq_true rfl) (fun E F G hr => body E (okc_X7_does F G) hr)
set_option maxRecDepth 10000 in
theorem con_X7_does (S : ST) (M : MT) (fl : Bool)  (hp : S.inv 40000 ∧ fl = false ∧ let5 M.order = true ∧ (S.order M.order M.number).1 = 0) : Con yX7_does cX7_does 2 none 8 aW [.ref 0] (S, M, fl) (none) (((S.order M.order M.number).2, M.doM S, false)) := by
  refine mk_X7_does (fun E C hr => ?_)
  obtain ⟨hi, rfl, hl, h0⟩ := hp
  have hi1 := ST.inv_le hi (m := 1) (by omega)
  have hi3 := ST.inv_le hi (m := 30000) (by omega)
  have hP := hi.1
  have ho := hi.1.1
  have hz := hi.2.1.1
  have hb := hi.2.1.2.1
  obtain ⟨e1, e2, e3, e4, e5⟩ := order_eq S M.number
  obtain ⟨z1, z2, z3⟩ := tZone_eq S M.number 1
  obtain ⟨y1, y2, y3⟩ := tZone_eq S M.number 0
  obtain ⟨s1, s2, s3⟩ := tStop_eq S M.number
  obtain ⟨p1, p2⟩ := tPass_eq S M.number
  have hd : ∀ x, M.doM S = M.sSeen x → Gd E aW 100000 [] [] ((S.order M.order M.number).2, M.sSeen x, false) := fun x hx => by rw [← hx]; exact hr
  have hid : M.sSeen M.seen = M := rfl
  clear hr
  rcases let5_o hl with c | c | c | c | c
  · have hr := hd M.seen (by unfold MT.doM; rw [if_neg (by rw [c]; decide), if_neg (by rw [c]; decide), if_neg (by rw [c]; decide)])
    rw [hid, c, e1] at hr
    rw [c, e1] at h0
    by_cases d : S.Z.has M.number = true
    · obtain ⟨i, hi8, ei, hv, q⟩ := op2 hi.2.1 d
      obtain ⟨i', hi8', ez, a1, a2, a3, a4, a5⟩ := at_zone hv
      obtain rfl : i = i' := ei.symm.trans a1
      have w1 := fun x => sn_wr S M false (87 + 2 * i + 1) x (by omega) (by omega) (by omega)
      simp only [wr_zone S hi8] at w1
      rcases q with ⟨q1, q2⟩ | ⟨q1, q2⟩
      · rw [z3 d (by rw [ei, q1]; decide), ei] at hr
        clear hd ez
        (refine nx_ok C (cuts := cut_X7_does) 1000 _ _ _ _ ?_; simp only [w_X7_does, ops_eq, xst_eq, call_eq, oK_eq, Option.toList_some, Option.toList_none, List.cons_append, List.nil_append, List.length_cons, List.length_nil, true_and, and_true, Nat.reduceAdd, aW_F, aW_A, aW_P, aW_w, abs_eq, O_asti_eq, v170, cl_eq, ST_id, MT_gs, ST_gs, PT_gs, ZT_gs, NT_gs, ET_gs, se_X7_serves, se_X7_minutes, se_X7_resets, bI_eq, c, a4, a5, w1])
        ((repeat' (with_reducible first | apply And.intro | intro _)) <;> first | (with_reducible assumption) | (with_reducible exact Nat.zero_le _) | contradiction | (simp only [Option.toList_none, Option.toList_some] at hr; with_reducible assumption) | (simp_all; done) | assumption)
      · rw [z2 d (by rw [ei, q1])] at h0
        first | exact absurd h0 ne2 | exact absurd h0 ne3
    · rw [z1 (bnot d)] at h0
      first | exact absurd h0 ne2 | exact absurd h0 ne3
  · have hr := hd M.seen (by unfold MT.doM; rw [if_neg (by rw [c]; decide), if_neg (by rw [c]; decide), if_neg (by rw [c]; decide)])
    rw [hid, c, e2] at hr
    rw [c, e2] at h0
    by_cases d : S.Z.has M.number = true
    · obtain ⟨i, hi8, ei, hv, q⟩ := op2 hi.2.1 d
      obtain ⟨i', hi8', ez, a1, a2, a3, a4, a5⟩ := at_zone hv
      obtain rfl : i = i' := ei.symm.trans a1
      have w1 := fun x => sn_wr S M false (87 + 2 * i + 1) x (by omega) (by omega) (by omega)
      simp only [wr_zone S hi8] at w1
      rcases q with ⟨q1, q2⟩ | ⟨q1, q2⟩
      · rw [y2 d (by rw [ei, q1])] at h0
        first | exact absurd h0 ne2 | exact absurd h0 ne3
      · rw [y3 d (by rw [ei, q1]; decide), ei] at hr
        clear hd ez
        (refine nx_ok C (cuts := cut_X7_does) 1000 _ _ _ _ ?_; simp only [w_X7_does, ops_eq, xst_eq, call_eq, oK_eq, Option.toList_some, Option.toList_none, List.cons_append, List.nil_append, List.length_cons, List.length_nil, true_and, and_true, Nat.reduceAdd, aW_F, aW_A, aW_P, aW_w, abs_eq, O_asti_eq, v170, cl_eq, ST_id, MT_gs, ST_gs, PT_gs, ZT_gs, NT_gs, ET_gs, se_X7_serves, se_X7_minutes, se_X7_resets, bI_eq, c, a4, a5, w1])
        ((repeat' (with_reducible first | apply And.intro | intro _)) <;> first | (with_reducible assumption) | (with_reducible exact Nat.zero_le _) | contradiction | (simp only [Option.toList_none, Option.toList_some] at hr; with_reducible assumption) | (simp_all; done) | assumption)
    · rw [y1 (bnot d)] at h0
      first | exact absurd h0 ne2 | exact absurd h0 ne3
  · have hr := hd (M.evs false (S.P.runs M.number) 1).seen (by unfold MT.doM; rw [if_neg (by rw [c]; decide), if_pos c])
    rw [evs_seen, c, e3] at hr
    rw [c, e3] at h0
    by_cases d : S.P.has M.number = true
    · by_cases q : S.P.inService M.number.toNatClampNeg = 0
      · rw [s2 d q] at h0
        first | exact absurd h0 ne2 | exact absurd h0 ne3
      · rw [s3 d q] at hr
        have hb0 : b01 0 := Or.inl rfl
        have hdd : (decide ((0 : Int32) = 0) && S.P.runs M.number) = S.P.runs M.number := by simp
        clear hd
        (refine nx_ok C (cuts := cut_X7_does) 1000 _ _ _ _ ?_; simp only [w_X7_does, ops_eq, xst_eq, call_eq, oK_eq, Option.toList_some, Option.toList_none, List.cons_append, List.nil_append, List.length_cons, List.length_nil, true_and, and_true, Nat.reduceAdd, aW_F, aW_A, aW_P, aW_w, abs_eq, O_asti_eq, v170, cl_eq, ST_id, MT_gs, ST_gs, PT_gs, ZT_gs, NT_gs, ET_gs, se_X7_serves, se_X7_minutes, se_X7_resets, bI_eq, c, d, hi1, hb0, hdd])
        ((repeat' (with_reducible first | apply And.intro | intro _)) <;> first | (with_reducible assumption) | (with_reducible exact Nat.zero_le _) | contradiction | (simp only [Option.toList_none, Option.toList_some] at hr; with_reducible assumption) | (simp_all; done) | assumption)
    · rw [s1 (bnot d)] at h0
      first | exact absurd h0 ne2 | exact absurd h0 ne3
  · have hr := hd (sawN S M.seen M.number.toNatClampNeg) (by unfold MT.doM; rw [if_pos c])
    rw [c, e4] at hr
    rw [c, e4] at h0
    by_cases d : pfault S M.number = 0
    · rw [p1 d] at hr
      obtain ⟨d1, d2⟩ := pfault_ok d
      obtain ⟨hn1, hn2⟩ := inR_cl (b := 240) d1 (by omega)
      have hn3 : M.number.toNatClampNeg ≤ 1440 := by omega
      clear hd d1 d2 hn2
      (refine nx_ok C (cuts := cut_X7_does) 1000 _ _ _ _ ?_; simp only [w_X7_does, ops_eq, xst_eq, call_eq, oK_eq, Option.toList_some, Option.toList_none, List.cons_append, List.nil_append, List.length_cons, List.length_nil, true_and, and_true, Nat.reduceAdd, aW_F, aW_A, aW_P, aW_w, abs_eq, O_asti_eq, v170, cl_eq, ST_id, MT_gs, ST_gs, PT_gs, ZT_gs, NT_gs, ET_gs, se_X7_serves, se_X7_minutes, se_X7_resets, c, hi3, hn1.symm, hn3])
      ((repeat' (with_reducible first | apply And.intro | intro _)) <;> first | (with_reducible assumption) | (with_reducible exact Nat.zero_le _) | contradiction | (simp only [Option.toList_none, Option.toList_some] at hr; with_reducible assumption) | (simp_all; done) | assumption)
    · rw [p2 d] at h0
      first | exact absurd h0 ne2 | exact absurd h0 ne3
  · have hr := hd (M.evs false (decide (¬ S.dry = 0 ∧ ¬ S.level < S.settings 12)) 5).seen (by unfold MT.doM; rw [if_neg (by rw [c]; decide), if_neg (by rw [c]; decide), if_pos c])
    rw [evs_seen, c, e5] at hr
    rw [c, e5] at h0
    unfold ST.tReset at hr h0
    by_cases d : S.trips = 0
    · rw [if_pos d] at h0
      first | exact absurd h0 ne2 | exact absurd h0 ne3
    · rw [if_neg d] at hr
      clear hd
      (refine nx_ok C (cuts := cut_X7_does) 1000 _ _ _ _ ?_; simp only [w_X7_does, ops_eq, xst_eq, call_eq, oK_eq, Option.toList_some, Option.toList_none, List.cons_append, List.nil_append, List.length_cons, List.length_nil, true_and, and_true, Nat.reduceAdd, aW_F, aW_A, aW_P, aW_w, abs_eq, O_asti_eq, v170, cl_eq, ST_id, MT_gs, ST_gs, PT_gs, ZT_gs, NT_gs, ET_gs, se_X7_serves, se_X7_minutes, se_X7_resets, c, hi1])
      ((repeat' (with_reducible first | apply And.intro | intro _)) <;> first | (with_reducible assumption) | (with_reducible exact Nat.zero_le _) | contradiction | (simp only [Option.toList_none, Option.toList_some] at hr; with_reducible assumption) | (simp_all; done) | assumption)
def spc_X7_does (S : ST) (M : MT) (fl : Bool)  (K : Option Value → QT → Prop) : Prop := (S.inv 40000 ∧ fl = false ∧ let5 M.order = true ∧ (S.order M.order M.number).1 = 0) ∧ K (none) (((S.order M.order M.number).2, M.doM S, false))
def sp_X7_does : Sp QT := fun av q K => match av with
  | [.ref 0] => spc_X7_does q.1 q.2.1 q.2.2  K
  | _ => False
theorem se_X7_does (S : ST) (M : MT) (fl : Bool)  (K : Option Value → QT → Prop) : sp_X7_does [.ref 0] (S, M, fl) K = ((S.inv 40000 ∧ fl = false ∧ let5 M.order = true ∧ (S.order M.order M.number).1 = 0) ∧ K (none) (((S.order M.order M.number).2, M.doM S, false))) := rfl
theorem spok_X7_does : SpOk yX7_does cX7_does 2 none 8 aW sp_X7_does := by
  intro av q K h
  unfold sp_X7_does at h
  split at h
  · refine ⟨_, _, ?_, con_X7_does q.1 q.2.1 q.2.2  h.1, h.2⟩; trivial
  · exact h.elim
