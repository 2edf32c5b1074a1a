/-! ===== settings ===== -/
def leastS : Nat → Int32 := fun i => match i with
  | 0 => 100
  | 1 => 1
  | 2 => 0
  | 3 => 1
  | 4 => 300
  | 5 => 1
  | 6 => 1
  | 7 => 0
  | 8 => 1
  | 9 => 1
  | 10 => 1
  | 11 => 0
  | 12 => 0
  | 13 => 1
  | 14 => 0
  | 15 => 0
  | 16 => 1
  | 17 => 0
  | 18 => 0
  | _ => 0
def mostS : Nat → Int32 := fun i => match i with
  | 0 => 900
  | 1 => 100
  | 2 => 100
  | 3 => 500
  | 4 => 900
  | 5 => 60
  | 6 => 60
  | 7 => 1000
  | 8 => 60
  | 9 => 300
  | 10 => 200
  | 11 => 10000
  | 12 => 10000
  | 13 => 60
  | 14 => 1000
  | 15 => 1439
  | 16 => 600
  | 17 => 100000
  | 18 => 1440
  | _ => 0
def firstS : Nat → Int32 := fun i => match i with
  | 0 => 400
  | 1 => 20
  | 2 => 20
  | 3 => 100
  | 4 => 500
  | 5 => 3
  | 6 => 5
  | 7 => 60
  | 8 => 4
  | 9 => 60
  | 10 => 20
  | 11 => 500
  | 12 => 2000
  | 13 => 2
  | 14 => 300
  | 15 => 60
  | 16 => 180
  | 17 => 3000
  | 18 => 0
  | _ => 0
def isSet (w v : Int32) : Bool := inR w 0 18 && inR v (leastS w.toNatClampNeg) (mostS w.toNatClampNeg)
theorem wlit18 {w : Int32} (h : inR w 0 18 = true) : w = 0 ∨ w = 1 ∨ w = 2 ∨ w = 3 ∨ w = 4 ∨ w = 5 ∨ w = 6 ∨ w = 7 ∨ w = 8 ∨ w = 9 ∨ w = 10 ∨ w = 11 ∨ w = 12 ∨ w = 13 ∨ w = 14 ∨ w = 15 ∨ w = 16 ∨ w = 17 ∨ w = 18 := by
  obtain ⟨n, hn, rfl, _⟩ := inR_nI (b := 18) h (by omega)
  have key : ∀ n, n ≤ 18 → nI n = 0 ∨ nI n = 1 ∨ nI n = 2 ∨ nI n = 3 ∨ nI n = 4 ∨ nI n = 5 ∨ nI n = 6 ∨ nI n = 7 ∨ nI n = 8 ∨ nI n = 9 ∨ nI n = 10 ∨ nI n = 11 ∨ nI n = 12 ∨ nI n = 13 ∨ nI n = 14 ∨ nI n = 15 ∨ nI n = 16 ∨ nI n = 17 ∨ nI n = 18 := by decide
  exact key n hn
def cod_X7_isSetting : List (Nat × Op Unit) := [(0, O_iload 0 1), (1, O_switch [(0, 88), (1, 100), (2, 110), (3, 120), (4, 130), (5, 142), (6, 142), (7, 152), (8, 142), (9, 162), (10, 172), (11, 182), (12, 182), (13, 142), (14, 152), (15, 192), (16, 202), (17, 212)] 222), (88, O_iload 1 1), (89, O_i2l), (90, O_long 100 3), (93, O_long 900 3), (96, O_callS 3 sp_X7_in), (99, O_zret), (100, O_iload 1 1), (101, O_i2l), (102, O_long 1 1), (103, O_long 100 3), (106, O_callS 3 sp_X7_in), (109, O_zret), (110, O_iload 1 1), (111, O_i2l), (112, O_long 0 1), (113, O_long 100 3), (116, O_callS 3 sp_X7_in), (119, O_zret), (120, O_iload 1 1), (121, O_i2l), (122, O_long 1 1), (123, O_long 500 3), (126, O_callS 3 sp_X7_in), (129, O_zret), (130, O_iload 1 1), (131, O_i2l), (132, O_long 300 3), (135, O_long 900 3), (138, O_callS 3 sp_X7_in), (141, O_zret), (142, O_iload 1 1), (143, O_i2l), (144, O_long 1 1), (145, O_long 60 3), (148, O_callS 3 sp_X7_in), (151, O_zret), (152, O_iload 1 1), (153, O_i2l), (154, O_long 0 1), (155, O_long 1000 3), (158, O_callS 3 sp_X7_in), (161, O_zret), (162, O_iload 1 1), (163, O_i2l), (164, O_long 1 1), (165, O_long 300 3), (168, O_callS 3 sp_X7_in), (171, O_zret), (172, O_iload 1 1), (173, O_i2l), (174, O_long 1 1), (175, O_long 200 3), (178, O_callS 3 sp_X7_in), (181, O_zret), (182, O_iload 1 1), (183, O_i2l), (184, O_long 0 1), (185, O_long 10000 3), (188, O_callS 3 sp_X7_in), (191, O_zret), (192, O_iload 1 1), (193, O_i2l), (194, O_long 0 1), (195, O_long 1439 3), (198, O_callS 3 sp_X7_in), (201, O_zret), (202, O_iload 1 1), (203, O_i2l), (204, O_long 1 1), (205, O_long 600 3), (208, O_callS 3 sp_X7_in), (211, O_zret), (212, O_iload 1 1), (213, O_i2l), (214, O_long 0 1), (215, O_long 100000 3), (218, O_callS 3 sp_X7_in), (221, O_zret), (222, O_iload 0 1), (223, O_int 18 2), (225, O_icmp_ne 244), (228, O_iload 1 1), (229, O_i2l), (230, O_long 0 1), (231, O_long 1440 3), (234, O_callS 3 sp_X7_in), (237, O_if_eq 244), (240, O_int 1 1), (241, O_goto 245), (244, O_int 0 1), (245, O_zret)]
abbrev cut_X7_isSetting : List Nat := []
set_option maxRecDepth 100000 in
theorem okc_X7_isSetting {E : En} (F : Fx E RX7 cX7_isSetting 2 1) (G : Fr E (some .boolean)) : CodOk E toU cod_X7_isSetting := by
  unfold CodOk cod_X7_isSetting
  refine List.forall_mem_cons.mpr ⟨ok_iload_n F dX7_isSetting_0 rfl (by decide), ?_⟩
  refine List.forall_mem_cons.mpr ⟨ok_table F dX7_isSetting_1 (by decide +kernel) (by decide), ?_⟩
  refine List.forall_mem_cons.mpr ⟨ok_iload_n F dX7_isSetting_88 rfl (by decide), ?_⟩
  refine List.forall_mem_cons.mpr ⟨ok_i2l F dX7_isSetting_89 (by decide), ?_⟩
  refine List.forall_mem_cons.mpr ⟨ok_ldc2 F (ix := 26) (wsHas_mem (l := [Jvm.Cond.constantLong RX7 26 100]) (by decide +kernel) (by simp)) dX7_isSetting_90 (by decide), ?_⟩
  refine List.forall_mem_cons.mpr ⟨ok_ldc2 F (ix := 28) (wsHas_mem (l := [Jvm.Cond.constantLong RX7 28 900]) (by decide +kernel) (by simp)) dX7_isSetting_93 (by decide), ?_⟩
  refine List.forall_mem_cons.mpr ⟨ok_callS F spok_X7_in (by decide +kernel) rfl (by decide) dX7_isSetting_96 (by decide), ?_⟩
  refine List.forall_mem_cons.mpr ⟨ok_zret F G dX7_isSetting_99 (by decide), ?_⟩
  refine List.forall_mem_cons.mpr ⟨ok_iload_n F dX7_isSetting_100 rfl (by decide), ?_⟩
  refine List.forall_mem_cons.mpr ⟨ok_i2l F dX7_isSetting_101 (by decide), ?_⟩
  refine List.forall_mem_cons.mpr ⟨ok_lconst F dX7_isSetting_102 (by decide) (by decide), ?_⟩
  refine List.forall_mem_cons.mpr ⟨ok_ldc2 F (ix := 26) (wsHas_mem (l := [Jvm.Cond.constantLong RX7 26 100]) (by decide +kernel) (by simp)) dX7_isSetting_103 (by decide), ?_⟩
  refine List.forall_mem_cons.mpr ⟨ok_callS F spok_X7_in (by decide +kernel) rfl (by decide) dX7_isSetting_106 (by decide), ?_⟩
  refine List.forall_mem_cons.mpr ⟨ok_zret F G dX7_isSetting_109 (by decide), ?_⟩
  refine List.forall_mem_cons.mpr ⟨ok_iload_n F dX7_isSetting_110 rfl (by decide), ?_⟩
  refine List.forall_mem_cons.mpr ⟨ok_i2l F dX7_isSetting_111 (by decide), ?_⟩
  refine List.forall_mem_cons.mpr ⟨ok_lconst F dX7_isSetting_112 (by decide) (by decide), ?_⟩
  refine List.forall_mem_cons.mpr ⟨ok_ldc2 F (ix := 26) (wsHas_mem (l := [Jvm.Cond.constantLong RX7 26 100]) (by decide +kernel) (by simp)) dX7_isSetting_113 (by decide), ?_⟩
  refine List.forall_mem_cons.mpr ⟨ok_callS F spok_X7_in (by decide +kernel) rfl (by decide) dX7_isSetting_116 (by decide), ?_⟩
  refine List.forall_mem_cons.mpr ⟨ok_zret F G dX7_isSetting_119 (by decide), ?_⟩
  refine List.forall_mem_cons.mpr ⟨ok_iload_n F dX7_isSetting_120 rfl (by decide), ?_⟩
  refine List.forall_mem_cons.mpr ⟨ok_i2l F dX7_isSetting_121 (by decide), ?_⟩
  refine List.forall_mem_cons.mpr ⟨ok_lconst F dX7_isSetting_122 (by decide) (by decide), ?_⟩
  refine List.forall_mem_cons.mpr ⟨ok_ldc2 F (ix := 34) (wsHas_mem (l := [Jvm.Cond.constantLong RX7 34 500]) (by decide +kernel) (by simp)) dX7_isSetting_123 (by decide), ?_⟩
  refine List.forall_mem_cons.mpr ⟨ok_callS F spok_X7_in (by decide +kernel) rfl (by decide) dX7_isSetting_126 (by decide), ?_⟩
  refine List.forall_mem_cons.mpr ⟨ok_zret F G dX7_isSetting_129 (by decide), ?_⟩
  refine List.forall_mem_cons.mpr ⟨ok_iload_n F dX7_isSetting_130 rfl (by decide), ?_⟩
  refine List.forall_mem_cons.mpr ⟨ok_i2l F dX7_isSetting_131 (by decide), ?_⟩
  refine List.forall_mem_cons.mpr ⟨ok_ldc2 F (ix := 36) (wsHas_mem (l := [Jvm.Cond.constantLong RX7 36 300]) (by decide +kernel) (by simp)) dX7_isSetting_132 (by decide), ?_⟩
  refine List.forall_mem_cons.mpr ⟨ok_ldc2 F (ix := 28) (wsHas_mem (l := [Jvm.Cond.constantLong RX7 28 900]) (by decide +kernel) (by simp)) dX7_isSetting_135 (by decide), ?_⟩
  refine List.forall_mem_cons.mpr ⟨ok_callS F spok_X7_in (by decide +kernel) rfl (by decide) dX7_isSetting_138 (by decide), ?_⟩
  refine List.forall_mem_cons.mpr ⟨ok_zret F G dX7_isSetting_141 (by decide), ?_⟩
  refine List.forall_mem_cons.mpr ⟨ok_iload_n F dX7_isSetting_142 rfl (by decide), ?_⟩
  refine List.forall_mem_cons.mpr ⟨ok_i2l F dX7_isSetting_143 (by decide), ?_⟩
  refine List.forall_mem_cons.mpr ⟨ok_lconst F dX7_isSetting_144 (by decide) (by decide), ?_⟩
  refine List.forall_mem_cons.mpr ⟨ok_ldc2 F (ix := 38) (wsHas_mem (l := [Jvm.Cond.constantLong RX7 38 60]) (by decide +kernel) (by simp)) dX7_isSetting_145 (by decide), ?_⟩
  refine List.forall_mem_cons.mpr ⟨ok_callS F spok_X7_in (by decide +kernel) rfl (by decide) dX7_isSetting_148 (by decide), ?_⟩
  refine List.forall_mem_cons.mpr ⟨ok_zret F G dX7_isSetting_151 (by decide), ?_⟩
  refine List.forall_mem_cons.mpr ⟨ok_iload_n F dX7_isSetting_152 rfl (by decide), ?_⟩
  refine List.forall_mem_cons.mpr ⟨ok_i2l F dX7_isSetting_153 (by decide), ?_⟩
  refine List.forall_mem_cons.mpr ⟨ok_lconst F dX7_isSetting_154 (by decide) (by decide), ?_⟩
  refine List.forall_mem_cons.mpr ⟨ok_ldc2 F (ix := 40) (wsHas_mem (l := [Jvm.Cond.constantLong RX7 40 1000]) (by decide +kernel) (by simp)) dX7_isSetting_155 (by decide), ?_⟩
  refine List.forall_mem_cons.mpr ⟨ok_callS F spok_X7_in (by decide +kernel) rfl (by decide) dX7_isSetting_158 (by decide), ?_⟩
  refine List.forall_mem_cons.mpr ⟨ok_zret F G dX7_isSetting_161 (by decide), ?_⟩
  refine List.forall_mem_cons.mpr ⟨ok_iload_n F dX7_isSetting_162 rfl (by decide), ?_⟩
  refine List.forall_mem_cons.mpr ⟨ok_i2l F dX7_isSetting_163 (by decide), ?_⟩
  refine List.forall_mem_cons.mpr ⟨ok_lconst F dX7_isSetting_164 (by decide) (by decide), ?_⟩
  refine List.forall_mem_cons.mpr ⟨ok_ldc2 F (ix := 36) (wsHas_mem (l := [Jvm.Cond.constantLong RX7 36 300]) (by decide +kernel) (by simp)) dX7_isSetting_165 (by decide), ?_⟩
  refine List.forall_mem_cons.mpr ⟨ok_callS F spok_X7_in (by decide +kernel) rfl (by decide) dX7_isSetting_168 (by decide), ?_⟩
  refine List.forall_mem_cons.mpr ⟨ok_zret F G dX7_isSetting_171 (by decide), ?_⟩
  refine List.forall_mem_cons.mpr ⟨ok_iload_n F dX7_isSetting_172 rfl (by decide), ?_⟩
  refine List.forall_mem_cons.mpr ⟨ok_i2l F dX7_isSetting_173 (by decide), ?_⟩
  refine List.forall_mem_cons.mpr ⟨ok_lconst F dX7_isSetting_174 (by decide) (by decide), ?_⟩
  refine List.forall_mem_cons.mpr ⟨ok_ldc2 F (ix := 42) (wsHas_mem (l := [Jvm.Cond.constantLong RX7 42 200]) (by decide +kernel) (by simp)) dX7_isSetting_175 (by decide), ?_⟩
  refine List.forall_mem_cons.mpr ⟨ok_callS F spok_X7_in (by decide +kernel) rfl (by decide) dX7_isSetting_178 (by decide), ?_⟩
  refine List.forall_mem_cons.mpr ⟨ok_zret F G dX7_isSetting_181 (by decide), ?_⟩
  refine List.forall_mem_cons.mpr ⟨ok_iload_n F dX7_isSetting_182 rfl (by decide), ?_⟩
  refine List.forall_mem_cons.mpr ⟨ok_i2l F dX7_isSetting_183 (by decide), ?_⟩
  refine List.forall_mem_cons.mpr ⟨ok_lconst F dX7_isSetting_184 (by decide) (by decide), ?_⟩
  refine List.forall_mem_cons.mpr ⟨ok_ldc2 F (ix := 44) (wsHas_mem (l := [Jvm.Cond.constantLong RX7 44 10000]) (by decide +kernel) (by simp)) dX7_isSetting_185 (by decide), ?_⟩
  refine List.forall_mem_cons.mpr ⟨ok_callS F spok_X7_in (by decide +kernel) rfl (by decide) dX7_isSetting_188 (by decide), ?_⟩
  refine List.forall_mem_cons.mpr ⟨ok_zret F G dX7_isSetting_191 (by decide), ?_⟩
  refine List.forall_mem_cons.mpr ⟨ok_iload_n F dX7_isSetting_192 rfl (by decide), ?_⟩
  refine List.forall_mem_cons.mpr ⟨ok_i2l F dX7_isSetting_193 (by decide), ?_⟩
  refine List.forall_mem_cons.mpr ⟨ok_lconst F dX7_isSetting_194 (by decide) (by decide), ?_⟩
  refine List.forall_mem_cons.mpr ⟨ok_ldc2 F (ix := 46) (wsHas_mem (l := [Jvm.Cond.constantLong RX7 46 1439]) (by decide +kernel) (by simp)) dX7_isSetting_195 (by decide), ?_⟩
  refine List.forall_mem_cons.mpr ⟨ok_callS F spok_X7_in (by decide +kernel) rfl (by decide) dX7_isSetting_198 (by decide), ?_⟩
  refine List.forall_mem_cons.mpr ⟨ok_zret F G dX7_isSetting_201 (by decide), ?_⟩
  refine List.forall_mem_cons.mpr ⟨ok_iload_n F dX7_isSetting_202 rfl (by decide), ?_⟩
  refine List.forall_mem_cons.mpr ⟨ok_i2l F dX7_isSetting_203 (by decide), ?_⟩
  refine List.forall_mem_cons.mpr ⟨ok_lconst F dX7_isSetting_204 (by decide) (by decide), ?_⟩
  refine List.forall_mem_cons.mpr ⟨ok_ldc2 F (ix := 48) (wsHas_mem (l := [Jvm.Cond.constantLong RX7 48 600]) (by decide +kernel) (by simp)) dX7_isSetting_205 (by decide), ?_⟩
  refine List.forall_mem_cons.mpr ⟨ok_callS F spok_X7_in (by decide +kernel) rfl (by decide) dX7_isSetting_208 (by decide), ?_⟩
  refine List.forall_mem_cons.mpr ⟨ok_zret F G dX7_isSetting_211 (by decide), ?_⟩
  refine List.forall_mem_cons.mpr ⟨ok_iload_n F dX7_isSetting_212 rfl (by decide), ?_⟩
  refine List.forall_mem_cons.mpr ⟨ok_i2l F dX7_isSetting_213 (by decide), ?_⟩
  refine List.forall_mem_cons.mpr ⟨ok_lconst F dX7_isSetting_214 (by decide) (by decide), ?_⟩
  refine List.forall_mem_cons.mpr ⟨ok_ldc2 F (ix := 50) (wsHas_mem (l := [Jvm.Cond.constantLong RX7 50 100000]) (by decide +kernel) (by simp)) dX7_isSetting_215 (by decide), ?_⟩
  refine List.forall_mem_cons.mpr ⟨ok_callS F spok_X7_in (by decide +kernel) rfl (by decide) dX7_isSetting_218 (by decide), ?_⟩
  refine List.forall_mem_cons.mpr ⟨ok_zret F G dX7_isSetting_221 (by decide), ?_⟩
  refine List.forall_mem_cons.mpr ⟨ok_iload_n F dX7_isSetting_222 rfl (by decide), ?_⟩
  refine List.forall_mem_cons.mpr ⟨ok_bipush F dX7_isSetting_223 (by decide) (by decide), ?_⟩
  refine List.forall_mem_cons.mpr ⟨ok_icmp_ne F dX7_isSetting_225 (by decide) (by decide) (by decide), ?_⟩
  refine List.forall_mem_cons.mpr ⟨ok_iload_n F dX7_isSetting_228 rfl (by decide), ?_⟩
  refine List.forall_mem_cons.mpr ⟨ok_i2l F dX7_isSetting_229 (by decide), ?_⟩
  refine List.forall_mem_cons.mpr ⟨ok_lconst F dX7_isSetting_230 (by decide) (by decide), ?_⟩
  refine List.forall_mem_cons.mpr ⟨ok_ldc2 F (ix := 52) (wsHas_mem (l := [Jvm.Cond.constantLong RX7 52 1440]) (by decide +kernel) (by simp)) dX7_isSetting_231 (by decide), ?_⟩
  refine List.forall_mem_cons.mpr ⟨ok_callS F spok_X7_in (by decide +kernel) rfl (by decide) dX7_isSetting_234 (by decide), ?_⟩
  refine List.forall_mem_cons.mpr ⟨ok_if_eq F dX7_isSetting_237 (by decide) (by decide) (by decide), ?_⟩
  refine List.forall_mem_cons.mpr ⟨ok_iconst F dX7_isSetting_240 (by decide) (by decide), ?_⟩
  refine List.forall_mem_cons.mpr ⟨ok_goto F dX7_isSetting_241 (by decide) (by decide) (by decide), ?_⟩
  refine List.forall_mem_cons.mpr ⟨ok_iconst F dX7_isSetting_244 (by decide) (by decide), ?_⟩
  refine List.forall_mem_cons.mpr ⟨ok_zret F G dX7_isSetting_245 (by decide), ?_⟩
  exact fun _ h => absurd h List.not_mem_nil
set_option maxRecDepth 100000 in
theorem w_X7_isSetting : (∀ (K : Kt Unit) (n : Nat) (L : xL) (st : List Value) (S : Unit), nx cod_X7_isSetting cut_X7_isSetting K (n + 1) 0 L st S = (O_iload 0 1) (nx cod_X7_isSetting cut_X7_isSetting K n) 0 L st S) ∧
  (∀ (K : Kt Unit) (n : Nat) (L : xL) (st : List Value) (S : Unit), nx cod_X7_isSetting cut_X7_isSetting K (n + 1) 1 L st S = (O_switch [(0, 88), (1, 100), (2, 110), (3, 120), (4, 130), (5, 142), (6, 142), (7, 152), (8, 142), (9, 162), (10, 172), (11, 182), (12, 182), (13, 142), (14, 152), (15, 192), (16, 202), (17, 212)] 222) (nx cod_X7_isSetting cut_X7_isSetting K n) 1 L st S) ∧
  (∀ (K : Kt Unit) (n : Nat) (L : xL) (st : List Value) (S : Unit), nx cod_X7_isSetting cut_X7_isSetting K (n + 1) 88 L st S = (O_iload 1 1) (nx cod_X7_isSetting cut_X7_isSetting K n) 88 L st S) ∧
  (∀ (K : Kt Unit) (n : Nat) (L : xL) (st : List Value) (S : Unit), nx cod_X7_isSetting cut_X7_isSetting K (n + 1) 89 L st S = (O_i2l) (nx cod_X7_isSetting cut_X7_isSetting K n) 89 L st S) ∧
  (∀ (K : Kt Unit) (n : Nat) (L : xL) (st : List Value) (S : Unit), nx cod_X7_isSetting cut_X7_isSetting K (n + 1) 90 L st S = (O_long 100 3) (nx cod_X7_isSetting cut_X7_isSetting K n) 90 L st S) ∧
  (∀ (K : Kt Unit) (n : Nat) (L : xL) (st : List Value) (S : Unit), nx cod_X7_isSetting cut_X7_isSetting K (n + 1) 93 L st S = (O_long 900 3) (nx cod_X7_isSetting cut_X7_isSetting K n) 93 L st S) ∧
  (∀ (K : Kt Unit) (n : Nat) (L : xL) (st : List Value) (S : Unit), nx cod_X7_isSetting cut_X7_isSetting K (n + 1) 96 L st S = (O_callS 3 sp_X7_in) (nx cod_X7_isSetting cut_X7_isSetting K n) 96 L st S) ∧
  (∀ (K : Kt Unit) (n : Nat) (L : xL) (st : List Value) (S : Unit), nx cod_X7_isSetting cut_X7_isSetting K (n + 1) 99 L st S = (O_zret) (nx cod_X7_isSetting cut_X7_isSetting K n) 99 L st S) ∧
  (∀ (K : Kt Unit) (n : Nat) (L : xL) (st : List Value) (S : Unit), nx cod_X7_isSetting cut_X7_isSetting K (n + 1) 100 L st S = (O_iload 1 1) (nx cod_X7_isSetting cut_X7_isSetting K n) 100 L st S) ∧
  (∀ (K : Kt Unit) (n : Nat) (L : xL) (st : List Value) (S : Unit), nx cod_X7_isSetting cut_X7_isSetting K (n + 1) 101 L st S = (O_i2l) (nx cod_X7_isSetting cut_X7_isSetting K n) 101 L st S) ∧
  (∀ (K : Kt Unit) (n : Nat) (L : xL) (st : List Value) (S : Unit), nx cod_X7_isSetting cut_X7_isSetting K (n + 1) 102 L st S = (O_long 1 1) (nx cod_X7_isSetting cut_X7_isSetting K n) 102 L st S) ∧
  (∀ (K : Kt Unit) (n : Nat) (L : xL) (st : List Value) (S : Unit), nx cod_X7_isSetting cut_X7_isSetting K (n + 1) 103 L st S = (O_long 100 3) (nx cod_X7_isSetting cut_X7_isSetting K n) 103 L st S) ∧
  (∀ (K : Kt Unit) (n : Nat) (L : xL) (st : List Value) (S : Unit), nx cod_X7_isSetting cut_X7_isSetting K (n + 1) 106 L st S = (O_callS 3 sp_X7_in) (nx cod_X7_isSetting cut_X7_isSetting K n) 106 L st S) ∧
  (∀ (K : Kt Unit) (n : Nat) (L : xL) (st : List Value) (S : Unit), nx cod_X7_isSetting cut_X7_isSetting K (n + 1) 109 L st S = (O_zret) (nx cod_X7_isSetting cut_X7_isSetting K n) 109 L st S) ∧
  (∀ (K : Kt Unit) (n : Nat) (L : xL) (st : List Value) (S : Unit), nx cod_X7_isSetting cut_X7_isSetting K (n + 1) 110 L st S = (O_iload 1 1) (nx cod_X7_isSetting cut_X7_isSetting K n) 110 L st S) ∧
  (∀ (K : Kt Unit) (n : Nat) (L : xL) (st : List Value) (S : Unit), nx cod_X7_isSetting cut_X7_isSetting K (n + 1) 111 L st S = (O_i2l) (nx cod_X7_isSetting cut_X7_isSetting K n) 111 L st S) ∧
  (∀ (K : Kt Unit) (n : Nat) (L : xL) (st : List Value) (S : Unit), nx cod_X7_isSetting cut_X7_isSetting K (n + 1) 112 L st S = (O_long 0 1) (nx cod_X7_isSetting cut_X7_isSetting K n) 112 L st S) ∧
  (∀ (K : Kt Unit) (n : Nat) (L : xL) (st : List Value) (S : Unit), nx cod_X7_isSetting cut_X7_isSetting K (n + 1) 113 L st S = (O_long 100 3) (nx cod_X7_isSetting cut_X7_isSetting K n) 113 L st S) ∧
  (∀ (K : Kt Unit) (n : Nat) (L : xL) (st : List Value) (S : Unit), nx cod_X7_isSetting cut_X7_isSetting K (n + 1) 116 L st S = (O_callS 3 sp_X7_in) (nx cod_X7_isSetting cut_X7_isSetting K n) 116 L st S) ∧
  (∀ (K : Kt Unit) (n : Nat) (L : xL) (st : List Value) (S : Unit), nx cod_X7_isSetting cut_X7_isSetting K (n + 1) 119 L st S = (O_zret) (nx cod_X7_isSetting cut_X7_isSetting K n) 119 L st S) ∧
  (∀ (K : Kt Unit) (n : Nat) (L : xL) (st : List Value) (S : Unit), nx cod_X7_isSetting cut_X7_isSetting K (n + 1) 120 L st S = (O_iload 1 1) (nx cod_X7_isSetting cut_X7_isSetting K n) 120 L st S) ∧
  (∀ (K : Kt Unit) (n : Nat) (L : xL) (st : List Value) (S : Unit), nx cod_X7_isSetting cut_X7_isSetting K (n + 1) 121 L st S = (O_i2l) (nx cod_X7_isSetting cut_X7_isSetting K n) 121 L st S) ∧
  (∀ (K : Kt Unit) (n : Nat) (L : xL) (st : List Value) (S : Unit), nx cod_X7_isSetting cut_X7_isSetting K (n + 1) 122 L st S = (O_long 1 1) (nx cod_X7_isSetting cut_X7_isSetting K n) 122 L st S) ∧
  (∀ (K : Kt Unit) (n : Nat) (L : xL) (st : List Value) (S : Unit), nx cod_X7_isSetting cut_X7_isSetting K (n + 1) 123 L st S = (O_long 500 3) (nx cod_X7_isSetting cut_X7_isSetting K n) 123 L st S) ∧
  (∀ (K : Kt Unit) (n : Nat) (L : xL) (st : List Value) (S : Unit), nx cod_X7_isSetting cut_X7_isSetting K (n + 1) 126 L st S = (O_callS 3 sp_X7_in) (nx cod_X7_isSetting cut_X7_isSetting K n) 126 L st S) ∧
  (∀ (K : Kt Unit) (n : Nat) (L : xL) (st : List Value) (S : Unit), nx cod_X7_isSetting cut_X7_isSetting K (n + 1) 129 L st S = (O_zret) (nx cod_X7_isSetting cut_X7_isSetting K n) 129 L st S) ∧
  (∀ (K : Kt Unit) (n : Nat) (L : xL) (st : List Value) (S : Unit), nx cod_X7_isSetting cut_X7_isSetting K (n + 1) 130 L st S = (O_iload 1 1) (nx cod_X7_isSetting cut_X7_isSetting K n) 130 L st S) ∧
  (∀ (K : Kt Unit) (n : Nat) (L : xL) (st : List Value) (S : Unit), nx cod_X7_isSetting cut_X7_isSetting K (n + 1) 131 L st S = (O_i2l) (nx cod_X7_isSetting cut_X7_isSetting K n) 131 L st S) ∧
  (∀ (K : Kt Unit) (n : Nat) (L : xL) (st : List Value) (S : Unit), nx cod_X7_isSetting cut_X7_isSetting K (n + 1) 132 L st S = (O_long 300 3) (nx cod_X7_isSetting cut_X7_isSetting K n) 132 L st S) ∧
  (∀ (K : Kt Unit) (n : Nat) (L : xL) (st : List Value) (S : Unit), nx cod_X7_isSetting cut_X7_isSetting K (n + 1) 135 L st S = (O_long 900 3) (nx cod_X7_isSetting cut_X7_isSetting K n) 135 L st S) ∧
  (∀ (K : Kt Unit) (n : Nat) (L : xL) (st : List Value) (S : Unit), nx cod_X7_isSetting cut_X7_isSetting K (n + 1) 138 L st S = (O_callS 3 sp_X7_in) (nx cod_X7_isSetting cut_X7_isSetting K n) 138 L st S) ∧
  (∀ (K : Kt Unit) (n : Nat) (L : xL) (st : List Value) (S : Unit), nx cod_X7_isSetting cut_X7_isSetting K (n + 1) 141 L st S = (O_zret) (nx cod_X7_isSetting cut_X7_isSetting K n) 141 L st S) ∧
  (∀ (K : Kt Unit) (n : Nat) (L : xL) (st : List Value) (S : Unit), nx cod_X7_isSetting cut_X7_isSetting K (n + 1) 142 L st S = (O_iload 1 1) (nx cod_X7_isSetting cut_X7_isSetting K n) 142 L st S) ∧
  (∀ (K : Kt Unit) (n : Nat) (L : xL) (st : List Value) (S : Unit), nx cod_X7_isSetting cut_X7_isSetting K (n + 1) 143 L st S = (O_i2l) (nx cod_X7_isSetting cut_X7_isSetting K n) 143 L st S) ∧
  (∀ (K : Kt Unit) (n : Nat) (L : xL) (st : List Value) (S : Unit), nx cod_X7_isSetting cut_X7_isSetting K (n + 1) 144 L st S = (O_long 1 1) (nx cod_X7_isSetting cut_X7_isSetting K n) 144 L st S) ∧
  (∀ (K : Kt Unit) (n : Nat) (L : xL) (st : List Value) (S : Unit), nx cod_X7_isSetting cut_X7_isSetting K (n + 1) 145 L st S = (O_long 60 3) (nx cod_X7_isSetting cut_X7_isSetting K n) 145 L st S) ∧
  (∀ (K : Kt Unit) (n : Nat) (L : xL) (st : List Value) (S : Unit), nx cod_X7_isSetting cut_X7_isSetting K (n + 1) 148 L st S = (O_callS 3 sp_X7_in) (nx cod_X7_isSetting cut_X7_isSetting K n) 148 L st S) ∧
  (∀ (K : Kt Unit) (n : Nat) (L : xL) (st : List Value) (S : Unit), nx cod_X7_isSetting cut_X7_isSetting K (n + 1) 151 L st S = (O_zret) (nx cod_X7_isSetting cut_X7_isSetting K n) 151 L st S) ∧
  (∀ (K : Kt Unit) (n : Nat) (L : xL) (st : List Value) (S : Unit), nx cod_X7_isSetting cut_X7_isSetting K (n + 1) 152 L st S = (O_iload 1 1) (nx cod_X7_isSetting cut_X7_isSetting K n) 152 L st S) ∧
  (∀ (K : Kt Unit) (n : Nat) (L : xL) (st : List Value) (S : Unit), nx cod_X7_isSetting cut_X7_isSetting K (n + 1) 153 L st S = (O_i2l) (nx cod_X7_isSetting cut_X7_isSetting K n) 153 L st S) ∧
  (∀ (K : Kt Unit) (n : Nat) (L : xL) (st : List Value) (S : Unit), nx cod_X7_isSetting cut_X7_isSetting K (n + 1) 154 L st S = (O_long 0 1) (nx cod_X7_isSetting cut_X7_isSetting K n) 154 L st S) ∧
  (∀ (K : Kt Unit) (n : Nat) (L : xL) (st : List Value) (S : Unit), nx cod_X7_isSetting cut_X7_isSetting K (n + 1) 155 L st S = (O_long 1000 3) (nx cod_X7_isSetting cut_X7_isSetting K n) 155 L st S) ∧
  (∀ (K : Kt Unit) (n : Nat) (L : xL) (st : List Value) (S : Unit), nx cod_X7_isSetting cut_X7_isSetting K (n + 1) 158 L st S = (O_callS 3 sp_X7_in) (nx cod_X7_isSetting cut_X7_isSetting K n) 158 L st S) ∧
  (∀ (K : Kt Unit) (n : Nat) (L : xL) (st : List Value) (S : Unit), nx cod_X7_isSetting cut_X7_isSetting K (n + 1) 161 L st S = (O_zret) (nx cod_X7_isSetting cut_X7_isSetting K n) 161 L st S) ∧
  (∀ (K : Kt Unit) (n : Nat) (L : xL) (st : List Value) (S : Unit), nx cod_X7_isSetting cut_X7_isSetting K (n + 1) 162 L st S = (O_iload 1 1) (nx cod_X7_isSetting cut_X7_isSetting K n) 162 L st S) ∧
  (∀ (K : Kt Unit) (n : Nat) (L : xL) (st : List Value) (S : Unit), nx cod_X7_isSetting cut_X7_isSetting K (n + 1) 163 L st S = (O_i2l) (nx cod_X7_isSetting cut_X7_isSetting K n) 163 L st S) ∧
  (∀ (K : Kt Unit) (n : Nat) (L : xL) (st : List Value) (S : Unit), nx cod_X7_isSetting cut_X7_isSetting K (n + 1) 164 L st S = (O_long 1 1) (nx cod_X7_isSetting cut_X7_isSetting K n) 164 L st S) ∧
  (∀ (K : Kt Unit) (n : Nat) (L : xL) (st : List Value) (S : Unit), nx cod_X7_isSetting cut_X7_isSetting K (n + 1) 165 L st S = (O_long 300 3) (nx cod_X7_isSetting cut_X7_isSetting K n) 165 L st S) ∧
  (∀ (K : Kt Unit) (n : Nat) (L : xL) (st : List Value) (S : Unit), nx cod_X7_isSetting cut_X7_isSetting K (n + 1) 168 L st S = (O_callS 3 sp_X7_in) (nx cod_X7_isSetting cut_X7_isSetting K n) 168 L st S) ∧
  (∀ (K : Kt Unit) (n : Nat) (L : xL) (st : List Value) (S : Unit), nx cod_X7_isSetting cut_X7_isSetting K (n + 1) 171 L st S = (O_zret) (nx cod_X7_isSetting cut_X7_isSetting K n) 171 L st S) ∧
  (∀ (K : Kt Unit) (n : Nat) (L : xL) (st : List Value) (S : Unit), nx cod_X7_isSetting cut_X7_isSetting K (n + 1) 172 L st S = (O_iload 1 1) (nx cod_X7_isSetting cut_X7_isSetting K n) 172 L st S) ∧
  (∀ (K : Kt Unit) (n : Nat) (L : xL) (st : List Value) (S : Unit), nx cod_X7_isSetting cut_X7_isSetting K (n + 1) 173 L st S = (O_i2l) (nx cod_X7_isSetting cut_X7_isSetting K n) 173 L st S) ∧
  (∀ (K : Kt Unit) (n : Nat) (L : xL) (st : List Value) (S : Unit), nx cod_X7_isSetting cut_X7_isSetting K (n + 1) 174 L st S = (O_long 1 1) (nx cod_X7_isSetting cut_X7_isSetting K n) 174 L st S) ∧
  (∀ (K : Kt Unit) (n : Nat) (L : xL) (st : List Value) (S : Unit), nx cod_X7_isSetting cut_X7_isSetting K (n + 1) 175 L st S = (O_long 200 3) (nx cod_X7_isSetting cut_X7_isSetting K n) 175 L st S) ∧
  (∀ (K : Kt Unit) (n : Nat) (L : xL) (st : List Value) (S : Unit), nx cod_X7_isSetting cut_X7_isSetting K (n + 1) 178 L st S = (O_callS 3 sp_X7_in) (nx cod_X7_isSetting cut_X7_isSetting K n) 178 L st S) ∧
  (∀ (K : Kt Unit) (n : Nat) (L : xL) (st : List Value) (S : Unit), nx cod_X7_isSetting cut_X7_isSetting K (n + 1) 181 L st S = (O_zret) (nx cod_X7_isSetting cut_X7_isSetting K n) 181 L st S) ∧
  (∀ (K : Kt Unit) (n : Nat) (L : xL) (st : List Value) (S : Unit), nx cod_X7_isSetting cut_X7_isSetting K (n + 1) 182 L st S = (O_iload 1 1) (nx cod_X7_isSetting cut_X7_isSetting K n) 182 L st S) ∧
  (∀ (K : Kt Unit) (n : Nat) (L : xL) (st : List Value) (S : Unit), nx cod_X7_isSetting cut_X7_isSetting K (n + 1) 183 L st S = (O_i2l) (nx cod_X7_isSetting cut_X7_isSetting K n) 183 L st S) ∧
  (∀ (K : Kt Unit) (n : Nat) (L : xL) (st : List Value) (S : Unit), nx cod_X7_isSetting cut_X7_isSetting K (n + 1) 184 L st S = (O_long 0 1) (nx cod_X7_isSetting cut_X7_isSetting K n) 184 L st S) ∧
  (∀ (K : Kt Unit) (n : Nat) (L : xL) (st : List Value) (S : Unit), nx cod_X7_isSetting cut_X7_isSetting K (n + 1) 185 L st S = (O_long 10000 3) (nx cod_X7_isSetting cut_X7_isSetting K n) 185 L st S) ∧
  (∀ (K : Kt Unit) (n : Nat) (L : xL) (st : List Value) (S : Unit), nx cod_X7_isSetting cut_X7_isSetting K (n + 1) 188 L st S = (O_callS 3 sp_X7_in) (nx cod_X7_isSetting cut_X7_isSetting K n) 188 L st S) ∧
  (∀ (K : Kt Unit) (n : Nat) (L : xL) (st : List Value) (S : Unit), nx cod_X7_isSetting cut_X7_isSetting K (n + 1) 191 L st S = (O_zret) (nx cod_X7_isSetting cut_X7_isSetting K n) 191 L st S) ∧
  (∀ (K : Kt Unit) (n : Nat) (L : xL) (st : List Value) (S : Unit), nx cod_X7_isSetting cut_X7_isSetting K (n + 1) 192 L st S = (O_iload 1 1) (nx cod_X7_isSetting cut_X7_isSetting K n) 192 L st S) ∧
  (∀ (K : Kt Unit) (n : Nat) (L : xL) (st : List Value) (S : Unit), nx cod_X7_isSetting cut_X7_isSetting K (n + 1) 193 L st S = (O_i2l) (nx cod_X7_isSetting cut_X7_isSetting K n) 193 L st S) ∧
  (∀ (K : Kt Unit) (n : Nat) (L : xL) (st : List Value) (S : Unit), nx cod_X7_isSetting cut_X7_isSetting K (n + 1) 194 L st S = (O_long 0 1) (nx cod_X7_isSetting cut_X7_isSetting K n) 194 L st S) ∧
  (∀ (K : Kt Unit) (n : Nat) (L : xL) (st : List Value) (S : Unit), nx cod_X7_isSetting cut_X7_isSetting K (n + 1) 195 L st S = (O_long 1439 3) (nx cod_X7_isSetting cut_X7_isSetting K n) 195 L st S) ∧
  (∀ (K : Kt Unit) (n : Nat) (L : xL) (st : List Value) (S : Unit), nx cod_X7_isSetting cut_X7_isSetting K (n + 1) 198 L st S = (O_callS 3 sp_X7_in) (nx cod_X7_isSetting cut_X7_isSetting K n) 198 L st S) ∧
  (∀ (K : Kt Unit) (n : Nat) (L : xL) (st : List Value) (S : Unit), nx cod_X7_isSetting cut_X7_isSetting K (n + 1) 201 L st S = (O_zret) (nx cod_X7_isSetting cut_X7_isSetting K n) 201 L st S) ∧
  (∀ (K : Kt Unit) (n : Nat) (L : xL) (st : List Value) (S : Unit), nx cod_X7_isSetting cut_X7_isSetting K (n + 1) 202 L st S = (O_iload 1 1) (nx cod_X7_isSetting cut_X7_isSetting K n) 202 L st S) ∧
  (∀ (K : Kt Unit) (n : Nat) (L : xL) (st : List Value) (S : Unit), nx cod_X7_isSetting cut_X7_isSetting K (n + 1) 203 L st S = (O_i2l) (nx cod_X7_isSetting cut_X7_isSetting K n) 203 L st S) ∧
  (∀ (K : Kt Unit) (n : Nat) (L : xL) (st : List Value) (S : Unit), nx cod_X7_isSetting cut_X7_isSetting K (n + 1) 204 L st S = (O_long 1 1) (nx cod_X7_isSetting cut_X7_isSetting K n) 204 L st S) ∧
  (∀ (K : Kt Unit) (n : Nat) (L : xL) (st : List Value) (S : Unit), nx cod_X7_isSetting cut_X7_isSetting K (n + 1) 205 L st S = (O_long 600 3) (nx cod_X7_isSetting cut_X7_isSetting K n) 205 L st S) ∧
  (∀ (K : Kt Unit) (n : Nat) (L : xL) (st : List Value) (S : Unit), nx cod_X7_isSetting cut_X7_isSetting K (n + 1) 208 L st S = (O_callS 3 sp_X7_in) (nx cod_X7_isSetting cut_X7_isSetting K n) 208 L st S) ∧
  (∀ (K : Kt Unit) (n : Nat) (L : xL) (st : List Value) (S : Unit), nx cod_X7_isSetting cut_X7_isSetting K (n + 1) 211 L st S = (O_zret) (nx cod_X7_isSetting cut_X7_isSetting K n) 211 L st S) ∧
  (∀ (K : Kt Unit) (n : Nat) (L : xL) (st : List Value) (S : Unit), nx cod_X7_isSetting cut_X7_isSetting K (n + 1) 212 L st S = (O_iload 1 1) (nx cod_X7_isSetting cut_X7_isSetting K n) 212 L st S) ∧
  (∀ (K : Kt Unit) (n : Nat) (L : xL) (st : List Value) (S : Unit), nx cod_X7_isSetting cut_X7_isSetting K (n + 1) 213 L st S = (O_i2l) (nx cod_X7_isSetting cut_X7_isSetting K n) 213 L st S) ∧
  (∀ (K : Kt Unit) (n : Nat) (L : xL) (st : List Value) (S : Unit), nx cod_X7_isSetting cut_X7_isSetting K (n + 1) 214 L st S = (O_long 0 1) (nx cod_X7_isSetting cut_X7_isSetting K n) 214 L st S) ∧
  (∀ (K : Kt Unit) (n : Nat) (L : xL) (st : List Value) (S : Unit), nx cod_X7_isSetting cut_X7_isSetting K (n + 1) 215 L st S = (O_long 100000 3) (nx cod_X7_isSetting cut_X7_isSetting K n) 215 L st S) ∧
  (∀ (K : Kt Unit) (n : Nat) (L : xL) (st : List Value) (S : Unit), nx cod_X7_isSetting cut_X7_isSetting K (n + 1) 218 L st S = (O_callS 3 sp_X7_in) (nx cod_X7_isSetting cut_X7_isSetting K n) 218 L st S) ∧
  (∀ (K : Kt Unit) (n : Nat) (L : xL) (st : List Value) (S : Unit), nx cod_X7_isSetting cut_X7_isSetting K (n + 1) 221 L st S = (O_zret) (nx cod_X7_isSetting cut_X7_isSetting K n) 221 L st S) ∧
  (∀ (K : Kt Unit) (n : Nat) (L : xL) (st : List Value) (S : Unit), nx cod_X7_isSetting cut_X7_isSetting K (n + 1) 222 L st S = (O_iload 0 1) (nx cod_X7_isSetting cut_X7_isSetting K n) 222 L st S) ∧
  (∀ (K : Kt Unit) (n : Nat) (L : xL) (st : List Value) (S : Unit), nx cod_X7_isSetting cut_X7_isSetting K (n + 1) 223 L st S = (O_int 18 2) (nx cod_X7_isSetting cut_X7_isSetting K n) 223 L st S) ∧
  (∀ (K : Kt Unit) (n : Nat) (L : xL) (st : List Value) (S : Unit), nx cod_X7_isSetting cut_X7_isSetting K (n + 1) 225 L st S = (O_icmp_ne 244) (nx cod_X7_isSetting cut_X7_isSetting K n) 225 L st S) ∧
  (∀ (K : Kt Unit) (n : Nat) (L : xL) (st : List Value) (S : Unit), nx cod_X7_isSetting cut_X7_isSetting K (n + 1) 228 L st S = (O_iload 1 1) (nx cod_X7_isSetting cut_X7_isSetting K n) 228 L st S) ∧
  (∀ (K : Kt Unit) (n : Nat) (L : xL) (st : List Value) (S : Unit), nx cod_X7_isSetting cut_X7_isSetting K (n + 1) 229 L st S = (O_i2l) (nx cod_X7_isSetting cut_X7_isSetting K n) 229 L st S) ∧
  (∀ (K : Kt Unit) (n : Nat) (L : xL) (st : List Value) (S : Unit), nx cod_X7_isSetting cut_X7_isSetting K (n + 1) 230 L st S = (O_long 0 1) (nx cod_X7_isSetting cut_X7_isSetting K n) 230 L st S) ∧
  (∀ (K : Kt Unit) (n : Nat) (L : xL) (st : List Value) (S : Unit), nx cod_X7_isSetting cut_X7_isSetting K (n + 1) 231 L st S = (O_long 1440 3) (nx cod_X7_isSetting cut_X7_isSetting K n) 231 L st S) ∧
  (∀ (K : Kt Unit) (n : Nat) (L : xL) (st : List Value) (S : Unit), nx cod_X7_isSetting cut_X7_isSetting K (n + 1) 234 L st S = (O_callS 3 sp_X7_in) (nx cod_X7_isSetting cut_X7_isSetting K n) 234 L st S) ∧
  (∀ (K : Kt Unit) (n : Nat) (L : xL) (st : List Value) (S : Unit), nx cod_X7_isSetting cut_X7_isSetting K (n + 1) 237 L st S = (O_if_eq 244) (nx cod_X7_isSetting cut_X7_isSetting K n) 237 L st S) ∧
  (∀ (K : Kt Unit) (n : Nat) (L : xL) (st : List Value) (S : Unit), nx cod_X7_isSetting cut_X7_isSetting K (n + 1) 240 L st S = (O_int 1 1) (nx cod_X7_isSetting cut_X7_isSetting K n) 240 L st S) ∧
  (∀ (K : Kt Unit) (n : Nat) (L : xL) (st : List Value) (S : Unit), nx cod_X7_isSetting cut_X7_isSetting K (n + 1) 241 L st S = (O_goto 245) (nx cod_X7_isSetting cut_X7_isSetting K n) 241 L st S) ∧
  (∀ (K : Kt Unit) (n : Nat) (L : xL) (st : List Value) (S : Unit), nx cod_X7_isSetting cut_X7_isSetting K (n + 1) 244 L st S = (O_int 0 1) (nx cod_X7_isSetting cut_X7_isSetting K n) 244 L st S) ∧
  (∀ (K : Kt Unit) (n : Nat) (L : xL) (st : List Value) (S : Unit), nx cod_X7_isSetting cut_X7_isSetting K (n + 1) 245 L st S = (O_zret) (nx cod_X7_isSetting cut_X7_isSetting K n) 245 L st S) ∧
  (∀ (K : Kt Unit) (n : Nat) (L : xL) (st : List Value) (S : Unit), nx cod_X7_isSetting cut_X7_isSetting K (n + 1) 100000 L st S = K 100000 L st S) := by
  repeat' apply And.intro
  all_goals (intros; rfl)
set_option maxRecDepth 100000 in
theorem mk_X7_isSetting {P P' : Unit} {r : Option Value} {p0 : Int32} {p1 : Int32} (body : ∀ E : En, CodOk E toU cod_X7_isSetting → Gd E toU 100000 [] r.toList P' → Gd E toU 0 [some (.int p0), some (.int p1)] [] P) : Con yX7_isSetting cX7_isSetting 2 (some .boolean) 1 toU [.int p0, .int p1] P r P' :=
  Con.of (by decide) rfl rfl (Nat.le_of_ble_eq_true rfl) (fun E F G hr => body E (okc_X7_isSetting F G) hr)
set_option maxRecDepth 10000 in
theorem con_X7_isSetting (S : Unit) (w : Int32) (v : Int32) : Con yX7_isSetting cX7_isSetting 2 (some .boolean) 1 toU [.int w, .int v] S (some (.int (bI (isSet w v)))) (S) := by
  refine mk_X7_isSetting (fun E C hr => ?_)
  by_cases c : inR w 0 18 = true
  · rcases wlit18 c with rfl | rfl | rfl | rfl | rfl | rfl | rfl | rfl | rfl | rfl | rfl | rfl | rfl | rfl | rfl | rfl | rfl | rfl | rfl
    · have e : isSet 0 v = inR v 100 900 := by
        unfold isSet
        rw [c, Bool.true_and]
        rfl
      rw [e] at hr
      (refine nx_ok C (cuts := cut_X7_isSetting) 1000 _ _ _ _ ?_; simp only [w_X7_isSetting, ops_eq, xst_eq, call_eq, oK_eq, Option.toList_some, Option.toList_none, List.cons_append, List.nil_append, List.length_cons, List.length_nil, true_and, and_true, Nat.reduceAdd, call_eq, se_X7_in, bI_eq, inL_lit])
      ((repeat' (with_reducible first | apply And.intro | intro _)) <;> first | (with_reducible assumption) | (with_reducible exact Nat.zero_le _) | contradiction | (simp only [Option.toList_none, Option.toList_some] at hr; with_reducible assumption) | (simp_all; done) | assumption)
    · have e : isSet 1 v = inR v 1 100 := by
        unfold isSet
        rw [c, Bool.true_and]
        rfl
      rw [e] at hr
      (refine nx_ok C (cuts := cut_X7_isSetting) 1000 _ _ _ _ ?_; simp only [w_X7_isSetting, ops_eq, xst_eq, call_eq, oK_eq, Option.toList_some, Option.toList_none, List.cons_append, List.nil_append, List.length_cons, List.length_nil, true_and, and_true, Nat.reduceAdd, call_eq, se_X7_in, bI_eq, inL_lit])
      ((repeat' (with_reducible first | apply And.intro | intro _)) <;> first | (with_reducible assumption) | (with_reducible exact Nat.zero_le _) | contradiction | (simp only [Option.toList_none, Option.toList_some] at hr; with_reducible assumption) | (simp_all; done) | assumption)
    · have e : isSet 2 v = inR v 0 100 := by
        unfold isSet
        rw [c, Bool.true_and]
        rfl
      rw [e] at hr
      (refine nx_ok C (cuts := cut_X7_isSetting) 1000 _ _ _ _ ?_; simp only [w_X7_isSetting, ops_eq, xst_eq, call_eq, oK_eq, Option.toList_some, Option.toList_none, List.cons_append, List.nil_append, List.length_cons, List.length_nil, true_and, and_true, Nat.reduceAdd, call_eq, se_X7_in, bI_eq, inL_lit])
      ((repeat' (with_reducible first | apply And.intro | intro _)) <;> first | (with_reducible assumption) | (with_reducible exact Nat.zero_le _) | contradiction | (simp only [Option.toList_none, Option.toList_some] at hr; with_reducible assumption) | (simp_all; done) | assumption)
    · have e : isSet 3 v = inR v 1 500 := by
        unfold isSet
        rw [c, Bool.true_and]
        rfl
      rw [e] at hr
      (refine nx_ok C (cuts := cut_X7_isSetting) 1000 _ _ _ _ ?_; simp only [w_X7_isSetting, ops_eq, xst_eq, call_eq, oK_eq, Option.toList_some, Option.toList_none, List.cons_append, List.nil_append, List.length_cons, List.length_nil, true_and, and_true, Nat.reduceAdd, call_eq, se_X7_in, bI_eq, inL_lit])
      ((repeat' (with_reducible first | apply And.intro | intro _)) <;> first | (with_reducible assumption) | (with_reducible exact Nat.zero_le _) | contradiction | (simp only [Option.toList_none, Option.toList_some] at hr; with_reducible assumption) | (simp_all; done) | assumption)
    · have e : isSet 4 v = inR v 300 900 := by
        unfold isSet
        rw [c, Bool.true_and]
        rfl
      rw [e] at hr
      (refine nx_ok C (cuts := cut_X7_isSetting) 1000 _ _ _ _ ?_; simp only [w_X7_isSetting, ops_eq, xst_eq, call_eq, oK_eq, Option.toList_some, Option.toList_none, List.cons_append, List.nil_append, List.length_cons, List.length_nil, true_and, and_true, Nat.reduceAdd, call_eq, se_X7_in, bI_eq, inL_lit])
      ((repeat' (with_reducible first | apply And.intro | intro _)) <;> first | (with_reducible assumption) | (with_reducible exact Nat.zero_le _) | contradiction | (simp only [Option.toList_none, Option.toList_some] at hr; with_reducible assumption) | (simp_all; done) | assumption)
    · have e : isSet 5 v = inR v 1 60 := by
        unfold isSet
        rw [c, Bool.true_and]
        rfl
      rw [e] at hr
      (refine nx_ok C (cuts := cut_X7_isSetting) 1000 _ _ _ _ ?_; simp only [w_X7_isSetting, ops_eq, xst_eq, call_eq, oK_eq, Option.toList_some, Option.toList_none, List.cons_append, List.nil_append, List.length_cons, List.length_nil, true_and, and_true, Nat.reduceAdd, call_eq, se_X7_in, bI_eq, inL_lit])
      ((repeat' (with_reducible first | apply And.intro | intro _)) <;> first | (with_reducible assumption) | (with_reducible exact Nat.zero_le _) | contradiction | (simp only [Option.toList_none, Option.toList_some] at hr; with_reducible assumption) | (simp_all; done) | assumption)
    · have e : isSet 6 v = inR v 1 60 := by
        unfold isSet
        rw [c, Bool.true_and]
        rfl
      rw [e] at hr
      (refine nx_ok C (cuts := cut_X7_isSetting) 1000 _ _ _ _ ?_; simp only [w_X7_isSetting, ops_eq, xst_eq, call_eq, oK_eq, Option.toList_some, Option.toList_none, List.cons_append, List.nil_append, List.length_cons, List.length_nil, true_and, and_true, Nat.reduceAdd, call_eq, se_X7_in, bI_eq, inL_lit])
      ((repeat' (with_reducible first | apply And.intro | intro _)) <;> first | (with_reducible assumption) | (with_reducible exact Nat.zero_le _) | contradiction | (simp only [Option.toList_none, Option.toList_some] at hr; with_reducible assumption) | (simp_all; done) | assumption)
    · have e : isSet 7 v = inR v 0 1000 := by
        unfold isSet
        rw [c, Bool.true_and]
        rfl
      rw [e] at hr
      (refine nx_ok C (cuts := cut_X7_isSetting) 1000 _ _ _ _ ?_; simp only [w_X7_isSetting, ops_eq, xst_eq, call_eq, oK_eq, Option.toList_some, Option.toList_none, List.cons_append, List.nil_append, List.length_cons, List.length_nil, true_and, and_true, Nat.reduceAdd, call_eq, se_X7_in, bI_eq, inL_lit])
      ((repeat' (with_reducible first | apply And.intro | intro _)) <;> first | (with_reducible assumption) | (with_reducible exact Nat.zero_le _) | contradiction | (simp only [Option.toList_none, Option.toList_some] at hr; with_reducible assumption) | (simp_all; done) | assumption)
    · have e : isSet 8 v = inR v 1 60 := by
        unfold isSet
        rw [c, Bool.true_and]
        rfl
      rw [e] at hr
      (refine nx_ok C (cuts := cut_X7_isSetting) 1000 _ _ _ _ ?_; simp only [w_X7_isSetting, ops_eq, xst_eq, call_eq, oK_eq, Option.toList_some, Option.toList_none, List.cons_append, List.nil_append, List.length_cons, List.length_nil, true_and, and_true, Nat.reduceAdd, call_eq, se_X7_in, bI_eq, inL_lit])
      ((repeat' (with_reducible first | apply And.intro | intro _)) <;> first | (with_reducible assumption) | (with_reducible exact Nat.zero_le _) | contradiction | (simp only [Option.toList_none, Option.toList_some] at hr; with_reducible assumption) | (simp_all; done) | assumption)
    · have e : isSet 9 v = inR v 1 300 := by
        unfold isSet
        rw [c, Bool.true_and]
        rfl
      rw [e] at hr
      (refine nx_ok C (cuts := cut_X7_isSetting) 1000 _ _ _ _ ?_; simp only [w_X7_isSetting, ops_eq, xst_eq, call_eq, oK_eq, Option.toList_some, Option.toList_none, List.cons_append, List.nil_append, List.length_cons, List.length_nil, true_and, and_true, Nat.reduceAdd, call_eq, se_X7_in, bI_eq, inL_lit])
      ((repeat' (with_reducible first | apply And.intro | intro _)) <;> first | (with_reducible assumption) | (with_reducible exact Nat.zero_le _) | contradiction | (simp only [Option.toList_none, Option.toList_some] at hr; with_reducible assumption) | (simp_all; done) | assumption)
    · have e : isSet 10 v = inR v 1 200 := by
        unfold isSet
        rw [c, Bool.true_and]
        rfl
      rw [e] at hr
      (refine nx_ok C (cuts := cut_X7_isSetting) 1000 _ _ _ _ ?_; simp only [w_X7_isSetting, ops_eq, xst_eq, call_eq, oK_eq, Option.toList_some, Option.toList_none, List.cons_append, List.nil_append, List.length_cons, List.length_nil, true_and, and_true, Nat.reduceAdd, call_eq, se_X7_in, bI_eq, inL_lit])
      ((repeat' (with_reducible first | apply And.intro | intro _)) <;> first | (with_reducible assumption) | (with_reducible exact Nat.zero_le _) | contradiction | (simp only [Option.toList_none, Option.toList_some] at hr; with_reducible assumption) | (simp_all; done) | assumption)
    · have e : isSet 11 v = inR v 0 10000 := by
        unfold isSet
        rw [c, Bool.true_and]
        rfl
      rw [e] at hr
      (refine nx_ok C (cuts := cut_X7_isSetting) 1000 _ _ _ _ ?_; simp only [w_X7_isSetting, ops_eq, xst_eq, call_eq, oK_eq, Option.toList_some, Option.toList_none, List.cons_append, List.nil_append, List.length_cons, List.length_nil, true_and, and_true, Nat.reduceAdd, call_eq, se_X7_in, bI_eq, inL_lit])
      ((repeat' (with_reducible first | apply And.intro | intro _)) <;> first | (with_reducible assumption) | (with_reducible exact Nat.zero_le _) | contradiction | (simp only [Option.toList_none, Option.toList_some] at hr; with_reducible assumption) | (simp_all; done) | assumption)
    · have e : isSet 12 v = inR v 0 10000 := by
        unfold isSet
        rw [c, Bool.true_and]
        rfl
      rw [e] at hr
      (refine nx_ok C (cuts := cut_X7_isSetting) 1000 _ _ _ _ ?_; simp only [w_X7_isSetting, ops_eq, xst_eq, call_eq, oK_eq, Option.toList_some, Option.toList_none, List.cons_append, List.nil_append, List.length_cons, List.length_nil, true_and, and_true, Nat.reduceAdd, call_eq, se_X7_in, bI_eq, inL_lit])
      ((repeat' (with_reducible first | apply And.intro | intro _)) <;> first | (with_reducible assumption) | (with_reducible exact Nat.zero_le _) | contradiction | (simp only [Option.toList_none, Option.toList_some] at hr; with_reducible assumption) | (simp_all; done) | assumption)
    · have e : isSet 13 v = inR v 1 60 := by
        unfold isSet
        rw [c, Bool.true_and]
        rfl
      rw [e] at hr
      (refine nx_ok C (cuts := cut_X7_isSetting) 1000 _ _ _ _ ?_; simp only [w_X7_isSetting, ops_eq, xst_eq, call_eq, oK_eq, Option.toList_some, Option.toList_none, List.cons_append, List.nil_append, List.length_cons, List.length_nil, true_and, and_true, Nat.reduceAdd, call_eq, se_X7_in, bI_eq, inL_lit])
      ((repeat' (with_reducible first | apply And.intro | intro _)) <;> first | (with_reducible assumption) | (with_reducible exact Nat.zero_le _) | contradiction | (simp only [Option.toList_none, Option.toList_some] at hr; with_reducible assumption) | (simp_all; done) | assumption)
    · have e : isSet 14 v = inR v 0 1000 := by
        unfold isSet
        rw [c, Bool.true_and]
        rfl
      rw [e] at hr
      (refine nx_ok C (cuts := cut_X7_isSetting) 1000 _ _ _ _ ?_; simp only [w_X7_isSetting, ops_eq, xst_eq, call_eq, oK_eq, Option.toList_some, Option.toList_none, List.cons_append, List.nil_append, List.length_cons, List.length_nil, true_and, and_true, Nat.reduceAdd, call_eq, se_X7_in, bI_eq, inL_lit])
      ((repeat' (with_reducible first | apply And.intro | intro _)) <;> first | (with_reducible assumption) | (with_reducible exact Nat.zero_le _) | contradiction | (simp only [Option.toList_none, Option.toList_some] at hr; with_reducible assumption) | (simp_all; done) | assumption)
    · have e : isSet 15 v = inR v 0 1439 := by
        unfold isSet
        rw [c, Bool.true_and]
        rfl
      rw [e] at hr
      (refine nx_ok C (cuts := cut_X7_isSetting) 1000 _ _ _ _ ?_; simp only [w_X7_isSetting, ops_eq, xst_eq, call_eq, oK_eq, Option.toList_some, Option.toList_none, List.cons_append, List.nil_append, List.length_cons, List.length_nil, true_and, and_true, Nat.reduceAdd, call_eq, se_X7_in, bI_eq, inL_lit])
      ((repeat' (with_reducible first | apply And.intro | intro _)) <;> first | (with_reducible assumption) | (with_reducible exact Nat.zero_le _) | contradiction | (simp only [Option.toList_none, Option.toList_some] at hr; with_reducible assumption) | (simp_all; done) | assumption)
    · have e : isSet 16 v = inR v 1 600 := by
        unfold isSet
        rw [c, Bool.true_and]
        rfl
      rw [e] at hr
      (refine nx_ok C (cuts := cut_X7_isSetting) 1000 _ _ _ _ ?_; simp only [w_X7_isSetting, ops_eq, xst_eq, call_eq, oK_eq, Option.toList_some, Option.toList_none, List.cons_append, List.nil_append, List.length_cons, List.length_nil, true_and, and_true, Nat.reduceAdd, call_eq, se_X7_in, bI_eq, inL_lit])
      ((repeat' (with_reducible first | apply And.intro | intro _)) <;> first | (with_reducible assumption) | (with_reducible exact Nat.zero_le _) | contradiction | (simp only [Option.toList_none, Option.toList_some] at hr; with_reducible assumption) | (simp_all; done) | assumption)
    · have e : isSet 17 v = inR v 0 100000 := by
        unfold isSet
        rw [c, Bool.true_and]
        rfl
      rw [e] at hr
      (refine nx_ok C (cuts := cut_X7_isSetting) 1000 _ _ _ _ ?_; simp only [w_X7_isSetting, ops_eq, xst_eq, call_eq, oK_eq, Option.toList_some, Option.toList_none, List.cons_append, List.nil_append, List.length_cons, List.length_nil, true_and, and_true, Nat.reduceAdd, call_eq, se_X7_in, bI_eq, inL_lit])
      ((repeat' (with_reducible first | apply And.intro | intro _)) <;> first | (with_reducible assumption) | (with_reducible exact Nat.zero_le _) | contradiction | (simp only [Option.toList_none, Option.toList_some] at hr; with_reducible assumption) | (simp_all; done) | assumption)
    · have e : isSet 18 v = inR v 0 1440 := by
        unfold isSet
        rw [c, Bool.true_and]
        rfl
      rw [e] at hr
      cases d : inR v 0 1440 with
      | true =>
        rw [d, bI_eq.2.2.1] at hr
        (refine nx_ok C (cuts := cut_X7_isSetting) 1000 _ _ _ _ ?_; simp only [w_X7_isSetting, ops_eq, xst_eq, call_eq, oK_eq, Option.toList_some, Option.toList_none, List.cons_append, List.nil_append, List.length_cons, List.length_nil, true_and, and_true, Nat.reduceAdd, call_eq, se_X7_in, bI_eq, inL_lit, d])
        ((repeat' (with_reducible first | apply And.intro | intro _)) <;> first | (with_reducible assumption) | (with_reducible exact Nat.zero_le _) | contradiction | (simp only [Option.toList_none, Option.toList_some] at hr; with_reducible assumption) | (simp_all; done) | assumption)
      | false =>
        rw [d, bI_eq.2.2.2.1] at hr
        (refine nx_ok C (cuts := cut_X7_isSetting) 1000 _ _ _ _ ?_; simp only [w_X7_isSetting, ops_eq, xst_eq, call_eq, oK_eq, Option.toList_some, Option.toList_none, List.cons_append, List.nil_append, List.length_cons, List.length_nil, true_and, and_true, Nat.reduceAdd, call_eq, se_X7_in, bI_eq, inL_lit, d])
        ((repeat' (with_reducible first | apply And.intro | intro _)) <;> first | (with_reducible assumption) | (with_reducible exact Nat.zero_le _) | contradiction | (simp only [Option.toList_none, Option.toList_some] at hr; with_reducible assumption) | (simp_all; done) | assumption)
  · have hk : ∀ n, n ≤ 18 → inR (nI n) 0 18 = true := by decide
    have hw : ∀ n, n ≤ 18 → ¬ w = nI n := fun n hn e => c (by rw [e]; exact hk n hn)
    have e : isSet w v = false := by unfold isSet; rw [bnot c]; rfl
    rw [e, bI_eq.2.2.2.1] at hr
    have w0 : ¬ w = 0 := hw 0 (by omega)
    have w1 : ¬ w = 1 := hw 1 (by omega)
    have w2 : ¬ w = 2 := hw 2 (by omega)
    have w3 : ¬ w = 3 := hw 3 (by omega)
    have w4 : ¬ w = 4 := hw 4 (by omega)
    have w5 : ¬ w = 5 := hw 5 (by omega)
    have w6 : ¬ w = 6 := hw 6 (by omega)
    have w7 : ¬ w = 7 := hw 7 (by omega)
    have w8 : ¬ w = 8 := hw 8 (by omega)
    have w9 : ¬ w = 9 := hw 9 (by omega)
    have w10 : ¬ w = 10 := hw 10 (by omega)
    have w11 : ¬ w = 11 := hw 11 (by omega)
    have w12 : ¬ w = 12 := hw 12 (by omega)
    have w13 : ¬ w = 13 := hw 13 (by omega)
    have w14 : ¬ w = 14 := hw 14 (by omega)
    have w15 : ¬ w = 15 := hw 15 (by omega)
    have w16 : ¬ w = 16 := hw 16 (by omega)
    have w17 : ¬ w = 17 := hw 17 (by omega)
    have w18 : ¬ w = 18 := hw 18 (by omega)
    clear hw hk c e
    (refine nx_ok C (cuts := cut_X7_isSetting) 1000 _ _ _ _ ?_; simp only [w_X7_isSetting, ops_eq, xst_eq, call_eq, oK_eq, Option.toList_some, Option.toList_none, List.cons_append, List.nil_append, List.length_cons, List.length_nil, true_and, and_true, Nat.reduceAdd, call_eq, se_X7_in, bI_eq, inL_lit, w0, w1, w2, w3, w4, w5, w6, w7, w8, w9, w10, w11, w12, w13, w14, w15, w16, w17, w18])
    ((repeat' (with_reducible first | apply And.intro | intro _)) <;> first | (with_reducible assumption) | (with_reducible exact Nat.zero_le _) | contradiction | (simp only [Option.toList_none, Option.toList_some] at hr; with_reducible assumption) | (simp_all; done) | assumption)
def sp_X7_isSetting : Sp Unit := fun av S K => match av with
  | [.int w, .int v] => K (some (.int (bI (isSet w v)))) (S)
  | _ => False
theorem se_X7_isSetting (w : Int32) (v : Int32) (S : Unit) (K : Option Value → Unit → Prop) : sp_X7_isSetting [.int w, .int v] S K = (K (some (.int (bI (isSet w v)))) (S)) := rfl
theorem spok_X7_isSetting : SpOk yX7_isSetting cX7_isSetting 2 (some .boolean) 1 toU sp_X7_isSetting := by
  intro av S K h
  unfold sp_X7_isSetting at h
  split at h
  · rename_i w v; exact ⟨some (.int (bI (isSet w v))), S, trivial, con_X7_isSetting S w v, h⟩
  · exact h.elim
def cod_X7_firstOf : List (Nat × Op Unit) := [(0, O_iload 0 1), (1, O_switch [(0, 88), (1, 92), (2, 92), (3, 95), (4, 98), (5, 102), (6, 104), (7, 106), (8, 109), (9, 106), (10, 92), (11, 98), (12, 111), (13, 115), (14, 117), (15, 106), (16, 121), (17, 125)] 129), (88, O_int 400 3), (91, O_iret), (92, O_int 20 2), (94, O_iret), (95, O_int 100 2), (97, O_iret), (98, O_int 500 3), (101, O_iret), (102, O_int 3 1), (103, O_iret), (104, O_int 5 1), (105, O_iret), (106, O_int 60 2), (108, O_iret), (109, O_int 4 1), (110, O_iret), (111, O_int 2000 3), (114, O_iret), (115, O_int 2 1), (116, O_iret), (117, O_int 300 3), (120, O_iret), (121, O_int 180 3), (124, O_iret), (125, O_int 3000 3), (128, O_iret), (129, O_int 0 1), (130, O_iret)]
abbrev cut_X7_firstOf : List Nat := []
set_option maxRecDepth 100000 in
theorem okc_X7_firstOf {E : En} (F : Fx E RX7 cX7_firstOf 1 0) (G : Fr E (some .int)) : CodOk E toU cod_X7_firstOf := by
  unfold CodOk cod_X7_firstOf
  refine List.forall_mem_cons.mpr ⟨ok_iload_n F dX7_firstOf_0 rfl (by decide), ?_⟩
  refine List.forall_mem_cons.mpr ⟨ok_table F dX7_firstOf_1 (by decide +kernel) (by decide), ?_⟩
  refine List.forall_mem_cons.mpr ⟨ok_sipush F dX7_firstOf_88 (by decide) (by decide), ?_⟩
  refine List.forall_mem_cons.mpr ⟨ok_iret F G dX7_firstOf_91 (by decide), ?_⟩
  refine List.forall_mem_cons.mpr ⟨ok_bipush F dX7_firstOf_92 (by decide) (by decide), ?_⟩
  refine List.forall_mem_cons.mpr ⟨ok_iret F G dX7_firstOf_94 (by decide), ?_⟩
  refine List.forall_mem_cons.mpr ⟨ok_bipush F dX7_firstOf_95 (by decide) (by decide), ?_⟩
  refine List.forall_mem_cons.mpr ⟨ok_iret F G dX7_firstOf_97 (by decide), ?_⟩
  refine List.forall_mem_cons.mpr ⟨ok_sipush F dX7_firstOf_98 (by decide) (by decide), ?_⟩
  refine List.forall_mem_cons.mpr ⟨ok_iret F G dX7_firstOf_101 (by decide), ?_⟩
  refine List.forall_mem_cons.mpr ⟨ok_iconst F dX7_firstOf_102 (by decide) (by decide), ?_⟩
  refine List.forall_mem_cons.mpr ⟨ok_iret F G dX7_firstOf_103 (by decide), ?_⟩
  refine List.forall_mem_cons.mpr ⟨ok_iconst F dX7_firstOf_104 (by decide) (by decide), ?_⟩
  refine List.forall_mem_cons.mpr ⟨ok_iret F G dX7_firstOf_105 (by decide), ?_⟩
  refine List.forall_mem_cons.mpr ⟨ok_bipush F dX7_firstOf_106 (by decide) (by decide), ?_⟩
  refine List.forall_mem_cons.mpr ⟨ok_iret F G dX7_firstOf_108 (by decide), ?_⟩
  refine List.forall_mem_cons.mpr ⟨ok_iconst F dX7_firstOf_109 (by decide) (by decide), ?_⟩
  refine List.forall_mem_cons.mpr ⟨ok_iret F G dX7_firstOf_110 (by decide), ?_⟩
  refine List.forall_mem_cons.mpr ⟨ok_sipush F dX7_firstOf_111 (by decide) (by decide), ?_⟩
  refine List.forall_mem_cons.mpr ⟨ok_iret F G dX7_firstOf_114 (by decide), ?_⟩
  refine List.forall_mem_cons.mpr ⟨ok_iconst F dX7_firstOf_115 (by decide) (by decide), ?_⟩
  refine List.forall_mem_cons.mpr ⟨ok_iret F G dX7_firstOf_116 (by decide), ?_⟩
  refine List.forall_mem_cons.mpr ⟨ok_sipush F dX7_firstOf_117 (by decide) (by decide), ?_⟩
  refine List.forall_mem_cons.mpr ⟨ok_iret F G dX7_firstOf_120 (by decide), ?_⟩
  refine List.forall_mem_cons.mpr ⟨ok_sipush F dX7_firstOf_121 (by decide) (by decide), ?_⟩
  refine List.forall_mem_cons.mpr ⟨ok_iret F G dX7_firstOf_124 (by decide), ?_⟩
  refine List.forall_mem_cons.mpr ⟨ok_sipush F dX7_firstOf_125 (by decide) (by decide), ?_⟩
  refine List.forall_mem_cons.mpr ⟨ok_iret F G dX7_firstOf_128 (by decide), ?_⟩
  refine List.forall_mem_cons.mpr ⟨ok_iconst F dX7_firstOf_129 (by decide) (by decide), ?_⟩
  refine List.forall_mem_cons.mpr ⟨ok_iret F G dX7_firstOf_130 (by decide), ?_⟩
  exact fun _ h => absurd h List.not_mem_nil
set_option maxRecDepth 100000 in
theorem w_X7_firstOf : (∀ (K : Kt Unit) (n : Nat) (L : xL) (st : List Value) (S : Unit), nx cod_X7_firstOf cut_X7_firstOf K (n + 1) 0 L st S = (O_iload 0 1) (nx cod_X7_firstOf cut_X7_firstOf K n) 0 L st S) ∧
  (∀ (K : Kt Unit) (n : Nat) (L : xL) (st : List Value) (S : Unit), nx cod_X7_firstOf cut_X7_firstOf K (n + 1) 1 L st S = (O_switch [(0, 88), (1, 92), (2, 92), (3, 95), (4, 98), (5, 102), (6, 104), (7, 106), (8, 109), (9, 106), (10, 92), (11, 98), (12, 111), (13, 115), (14, 117), (15, 106), (16, 121), (17, 125)] 129) (nx cod_X7_firstOf cut_X7_firstOf K n) 1 L st S) ∧
  (∀ (K : Kt Unit) (n : Nat) (L : xL) (st : List Value) (S : Unit), nx cod_X7_firstOf cut_X7_firstOf K (n + 1) 88 L st S = (O_int 400 3) (nx cod_X7_firstOf cut_X7_firstOf K n) 88 L st S) ∧
  (∀ (K : Kt Unit) (n : Nat) (L : xL) (st : List Value) (S : Unit), nx cod_X7_firstOf cut_X7_firstOf K (n + 1) 91 L st S = (O_iret) (nx cod_X7_firstOf cut_X7_firstOf K n) 91 L st S) ∧
  (∀ (K : Kt Unit) (n : Nat) (L : xL) (st : List Value) (S : Unit), nx cod_X7_firstOf cut_X7_firstOf K (n + 1) 92 L st S = (O_int 20 2) (nx cod_X7_firstOf cut_X7_firstOf K n) 92 L st S) ∧
  (∀ (K : Kt Unit) (n : Nat) (L : xL) (st : List Value) (S : Unit), nx cod_X7_firstOf cut_X7_firstOf K (n + 1) 94 L st S = (O_iret) (nx cod_X7_firstOf cut_X7_firstOf K n) 94 L st S) ∧
  (∀ (K : Kt Unit) (n : Nat) (L : xL) (st : List Value) (S : Unit), nx cod_X7_firstOf cut_X7_firstOf K (n + 1) 95 L st S = (O_int 100 2) (nx cod_X7_firstOf cut_X7_firstOf K n) 95 L st S) ∧
  (∀ (K : Kt Unit) (n : Nat) (L : xL) (st : List Value) (S : Unit), nx cod_X7_firstOf cut_X7_firstOf K (n + 1) 97 L st S = (O_iret) (nx cod_X7_firstOf cut_X7_firstOf K n) 97 L st S) ∧
  (∀ (K : Kt Unit) (n : Nat) (L : xL) (st : List Value) (S : Unit), nx cod_X7_firstOf cut_X7_firstOf K (n + 1) 98 L st S = (O_int 500 3) (nx cod_X7_firstOf cut_X7_firstOf K n) 98 L st S) ∧
  (∀ (K : Kt Unit) (n : Nat) (L : xL) (st : List Value) (S : Unit), nx cod_X7_firstOf cut_X7_firstOf K (n + 1) 101 L st S = (O_iret) (nx cod_X7_firstOf cut_X7_firstOf K n) 101 L st S) ∧
  (∀ (K : Kt Unit) (n : Nat) (L : xL) (st : List Value) (S : Unit), nx cod_X7_firstOf cut_X7_firstOf K (n + 1) 102 L st S = (O_int 3 1) (nx cod_X7_firstOf cut_X7_firstOf K n) 102 L st S) ∧
  (∀ (K : Kt Unit) (n : Nat) (L : xL) (st : List Value) (S : Unit), nx cod_X7_firstOf cut_X7_firstOf K (n + 1) 103 L st S = (O_iret) (nx cod_X7_firstOf cut_X7_firstOf K n) 103 L st S) ∧
  (∀ (K : Kt Unit) (n : Nat) (L : xL) (st : List Value) (S : Unit), nx cod_X7_firstOf cut_X7_firstOf K (n + 1) 104 L st S = (O_int 5 1) (nx cod_X7_firstOf cut_X7_firstOf K n) 104 L st S) ∧
  (∀ (K : Kt Unit) (n : Nat) (L : xL) (st : List Value) (S : Unit), nx cod_X7_firstOf cut_X7_firstOf K (n + 1) 105 L st S = (O_iret) (nx cod_X7_firstOf cut_X7_firstOf K n) 105 L st S) ∧
  (∀ (K : Kt Unit) (n : Nat) (L : xL) (st : List Value) (S : Unit), nx cod_X7_firstOf cut_X7_firstOf K (n + 1) 106 L st S = (O_int 60 2) (nx cod_X7_firstOf cut_X7_firstOf K n) 106 L st S) ∧
  (∀ (K : Kt Unit) (n : Nat) (L : xL) (st : List Value) (S : Unit), nx cod_X7_firstOf cut_X7_firstOf K (n + 1) 108 L st S = (O_iret) (nx cod_X7_firstOf cut_X7_firstOf K n) 108 L st S) ∧
  (∀ (K : Kt Unit) (n : Nat) (L : xL) (st : List Value) (S : Unit), nx cod_X7_firstOf cut_X7_firstOf K (n + 1) 109 L st S = (O_int 4 1) (nx cod_X7_firstOf cut_X7_firstOf K n) 109 L st S) ∧
  (∀ (K : Kt Unit) (n : Nat) (L : xL) (st : List Value) (S : Unit), nx cod_X7_firstOf cut_X7_firstOf K (n + 1) 110 L st S = (O_iret) (nx cod_X7_firstOf cut_X7_firstOf K n) 110 L st S) ∧
  (∀ (K : Kt Unit) (n : Nat) (L : xL) (st : List Value) (S : Unit), nx cod_X7_firstOf cut_X7_firstOf K (n + 1) 111 L st S = (O_int 2000 3) (nx cod_X7_firstOf cut_X7_firstOf K n) 111 L st S) ∧
  (∀ (K : Kt Unit) (n : Nat) (L : xL) (st : List Value) (S : Unit), nx cod_X7_firstOf cut_X7_firstOf K (n + 1) 114 L st S = (O_iret) (nx cod_X7_firstOf cut_X7_firstOf K n) 114 L st S) ∧
  (∀ (K : Kt Unit) (n : Nat) (L : xL) (st : List Value) (S : Unit), nx cod_X7_firstOf cut_X7_firstOf K (n + 1) 115 L st S = (O_int 2 1) (nx cod_X7_firstOf cut_X7_firstOf K n) 115 L st S) ∧
  (∀ (K : Kt Unit) (n : Nat) (L : xL) (st : List Value) (S : Unit), nx cod_X7_firstOf cut_X7_firstOf K (n + 1) 116 L st S = (O_iret) (nx cod_X7_firstOf cut_X7_firstOf K n) 116 L st S) ∧
  (∀ (K : Kt Unit) (n : Nat) (L : xL) (st : List Value) (S : Unit), nx cod_X7_firstOf cut_X7_firstOf K (n + 1) 117 L st S = (O_int 300 3) (nx cod_X7_firstOf cut_X7_firstOf K n) 117 L st S) ∧
  (∀ (K : Kt Unit) (n : Nat) (L : xL) (st : List Value) (S : Unit), nx cod_X7_firstOf cut_X7_firstOf K (n + 1) 120 L st S = (O_iret) (nx cod_X7_firstOf cut_X7_firstOf K n) 120 L st S) ∧
  (∀ (K : Kt Unit) (n : Nat) (L : xL) (st : List Value) (S : Unit), nx cod_X7_firstOf cut_X7_firstOf K (n + 1) 121 L st S = (O_int 180 3) (nx cod_X7_firstOf cut_X7_firstOf K n) 121 L st S) ∧
  (∀ (K : Kt Unit) (n : Nat) (L : xL) (st : List Value) (S : Unit), nx cod_X7_firstOf cut_X7_firstOf K (n + 1) 124 L st S = (O_iret) (nx cod_X7_firstOf cut_X7_firstOf K n) 124 L st S) ∧
  (∀ (K : Kt Unit) (n : Nat) (L : xL) (st : List Value) (S : Unit), nx cod_X7_firstOf cut_X7_firstOf K (n + 1) 125 L st S = (O_int 3000 3) (nx cod_X7_firstOf cut_X7_firstOf K n) 125 L st S) ∧
  (∀ (K : Kt Unit) (n : Nat) (L : xL) (st : List Value) (S : Unit), nx cod_X7_firstOf cut_X7_firstOf K (n + 1) 128 L st S = (O_iret) (nx cod_X7_firstOf cut_X7_firstOf K n) 128 L st S) ∧
  (∀ (K : Kt Unit) (n : Nat) (L : xL) (st : List Value) (S : Unit), nx cod_X7_firstOf cut_X7_firstOf K (n + 1) 129 L st S = (O_int 0 1) (nx cod_X7_firstOf cut_X7_firstOf K n) 129 L st S) ∧
  (∀ (K : Kt Unit) (n : Nat) (L : xL) (st : List Value) (S : Unit), nx cod_X7_firstOf cut_X7_firstOf K (n + 1) 130 L st S = (O_iret) (nx cod_X7_firstOf cut_X7_firstOf K n) 130 L st S) ∧
  (∀ (K : Kt Unit) (n : Nat) (L : xL) (st : List Value) (S : Unit), nx cod_X7_firstOf cut_X7_firstOf K (n + 1) 100000 L st S = K 100000 L st S) := by
  repeat' apply And.intro
  all_goals (intros; rfl)
set_option maxRecDepth 100000 in
theorem mk_X7_firstOf {P P' : Unit} {r : Option Value} {p0 : Int32} (body : ∀ E : En, CodOk E toU cod_X7_firstOf → Gd E toU 100000 [] r.toList P' → Gd E toU 0 [some (.int p0)] [] P) : Con yX7_firstOf cX7_firstOf 1 (some .int) 0 toU [.int p0] P r P' :=
  Con.of (by decide) rfl rfl (Nat.le_of_ble_eq_true rfl) (fun E F G hr => body E (okc_X7_firstOf F G) hr)
set_option maxRecDepth 10000 in
theorem con_X7_firstOf (S : Unit) (w : Int32) (hp : inR w 0 18 = true) : Con yX7_firstOf cX7_firstOf 1 (some .int) 0 toU [.int w] S (some (.int (firstS w.toNatClampNeg))) (S) := by
  refine mk_X7_firstOf (fun E C hr => ?_)
  rcases wlit18 hp with rfl | rfl | rfl | rfl | rfl | rfl | rfl | rfl | rfl | rfl | rfl | rfl | rfl | rfl | rfl | rfl | rfl | rfl | rfl
  · have hr : Gd E toU 100000 [] [.int 400] () := hr
    (refine nx_ok C (cuts := cut_X7_firstOf) 1000 _ _ _ _ ?_; simp only [w_X7_firstOf, ops_eq, xst_eq, call_eq, oK_eq, Option.toList_some, Option.toList_none, List.cons_append, List.nil_append, List.length_cons, List.length_nil, true_and, and_true, Nat.reduceAdd, call_eq])
    ((repeat' (with_reducible first | apply And.intro | intro _)) <;> first | (with_reducible assumption) | (with_reducible exact Nat.zero_le _) | contradiction | (simp only [Option.toList_none, Option.toList_some] at hr; with_reducible assumption) | (simp_all; done) | assumption)
  · have hr : Gd E toU 100000 [] [.int 20] () := hr
    (refine nx_ok C (cuts := cut_X7_firstOf) 1000 _ _ _ _ ?_; simp only [w_X7_firstOf, ops_eq, xst_eq, call_eq, oK_eq, Option.toList_some, Option.toList_none, List.cons_append, List.nil_append, List.length_cons, List.length_nil, true_and, and_true, Nat.reduceAdd, call_eq])
    ((repeat' (with_reducible first | apply And.intro | intro _)) <;> first | (with_reducible assumption) | (with_reducible exact Nat.zero_le _) | contradiction | (simp only [Option.toList_none, Option.toList_some] at hr; with_reducible assumption) | (simp_all; done) | assumption)
  · have hr : Gd E toU 100000 [] [.int 20] () := hr
    (refine nx_ok C (cuts := cut_X7_firstOf) 1000 _ _ _ _ ?_; simp only [w_X7_firstOf, ops_eq, xst_eq, call_eq, oK_eq, Option.toList_some, Option.toList_none, List.cons_append, List.nil_append, List.length_cons, List.length_nil, true_and, and_true, Nat.reduceAdd, call_eq])
    ((repeat' (with_reducible first | apply And.intro | intro _)) <;> first | (with_reducible assumption) | (with_reducible exact Nat.zero_le _) | contradiction | (simp only [Option.toList_none, Option.toList_some] at hr; with_reducible assumption) | (simp_all; done) | assumption)
  · have hr : Gd E toU 100000 [] [.int 100] () := hr
    (refine nx_ok C (cuts := cut_X7_firstOf) 1000 _ _ _ _ ?_; simp only [w_X7_firstOf, ops_eq, xst_eq, call_eq, oK_eq, Option.toList_some, Option.toList_none, List.cons_append, List.nil_append, List.length_cons, List.length_nil, true_and, and_true, Nat.reduceAdd, call_eq])
    ((repeat' (with_reducible first | apply And.intro | intro _)) <;> first | (with_reducible assumption) | (with_reducible exact Nat.zero_le _) | contradiction | (simp only [Option.toList_none, Option.toList_some] at hr; with_reducible assumption) | (simp_all; done) | assumption)
  · have hr : Gd E toU 100000 [] [.int 500] () := hr
    (refine nx_ok C (cuts := cut_X7_firstOf) 1000 _ _ _ _ ?_; simp only [w_X7_firstOf, ops_eq, xst_eq, call_eq, oK_eq, Option.toList_some, Option.toList_none, List.cons_append, List.nil_append, List.length_cons, List.length_nil, true_and, and_true, Nat.reduceAdd, call_eq])
    ((repeat' (with_reducible first | apply And.intro | intro _)) <;> first | (with_reducible assumption) | (with_reducible exact Nat.zero_le _) | contradiction | (simp only [Option.toList_none, Option.toList_some] at hr; with_reducible assumption) | (simp_all; done) | assumption)
  · have hr : Gd E toU 100000 [] [.int 3] () := hr
    (refine nx_ok C (cuts := cut_X7_firstOf) 1000 _ _ _ _ ?_; simp only [w_X7_firstOf, ops_eq, xst_eq, call_eq, oK_eq, Option.toList_some, Option.toList_none, List.cons_append, List.nil_append, List.length_cons, List.length_nil, true_and, and_true, Nat.reduceAdd, call_eq])
    ((repeat' (with_reducible first | apply And.intro | intro _)) <;> first | (with_reducible assumption) | (with_reducible exact Nat.zero_le _) | contradiction | (simp only [Option.toList_none, Option.toList_some] at hr; with_reducible assumption) | (simp_all; done) | assumption)
  · have hr : Gd E toU 100000 [] [.int 5] () := hr
    (refine nx_ok C (cuts := cut_X7_firstOf) 1000 _ _ _ _ ?_; simp only [w_X7_firstOf, ops_eq, xst_eq, call_eq, oK_eq, Option.toList_some, Option.toList_none, List.cons_append, List.nil_append, List.length_cons, List.length_nil, true_and, and_true, Nat.reduceAdd, call_eq])
    ((repeat' (with_reducible first | apply And.intro | intro _)) <;> first | (with_reducible assumption) | (with_reducible exact Nat.zero_le _) | contradiction | (simp only [Option.toList_none, Option.toList_some] at hr; with_reducible assumption) | (simp_all; done) | assumption)
  · have hr : Gd E toU 100000 [] [.int 60] () := hr
    (refine nx_ok C (cuts := cut_X7_firstOf) 1000 _ _ _ _ ?_; simp only [w_X7_firstOf, ops_eq, xst_eq, call_eq, oK_eq, Option.toList_some, Option.toList_none, List.cons_append, List.nil_append, List.length_cons, List.length_nil, true_and, and_true, Nat.reduceAdd, call_eq])
    ((repeat' (with_reducible first | apply And.intro | intro _)) <;> first | (with_reducible assumption) | (with_reducible exact Nat.zero_le _) | contradiction | (simp only [Option.toList_none, Option.toList_some] at hr; with_reducible assumption) | (simp_all; done) | assumption)
  · have hr : Gd E toU 100000 [] [.int 4] () := hr
    (refine nx_ok C (cuts := cut_X7_firstOf) 1000 _ _ _ _ ?_; simp only [w_X7_firstOf, ops_eq, xst_eq, call_eq, oK_eq, Option.toList_some, Option.toList_none, List.cons_append, List.nil_append, List.length_cons, List.length_nil, true_and, and_true, Nat.reduceAdd, call_eq])
    ((repeat' (with_reducible first | apply And.intro | intro _)) <;> first | (with_reducible assumption) | (with_reducible exact Nat.zero_le _) | contradiction | (simp only [Option.toList_none, Option.toList_some] at hr; with_reducible assumption) | (simp_all; done) | assumption)
  · have hr : Gd E toU 100000 [] [.int 60] () := hr
    (refine nx_ok C (cuts := cut_X7_firstOf) 1000 _ _ _ _ ?_; simp only [w_X7_firstOf, ops_eq, xst_eq, call_eq, oK_eq, Option.toList_some, Option.toList_none, List.cons_append, List.nil_append, List.length_cons, List.length_nil, true_and, and_true, Nat.reduceAdd, call_eq])
    ((repeat' (with_reducible first | apply And.intro | intro _)) <;> first | (with_reducible assumption) | (with_reducible exact Nat.zero_le _) | contradiction | (simp only [Option.toList_none, Option.toList_some] at hr; with_reducible assumption) | (simp_all; done) | assumption)
  · have hr : Gd E toU 100000 [] [.int 20] () := hr
    (refine nx_ok C (cuts := cut_X7_firstOf) 1000 _ _ _ _ ?_; simp only [w_X7_firstOf, ops_eq, xst_eq, call_eq, oK_eq, Option.toList_some, Option.toList_none, List.cons_append, List.nil_append, List.length_cons, List.length_nil, true_and, and_true, Nat.reduceAdd, call_eq])
    ((repeat' (with_reducible first | apply And.intro | intro _)) <;> first | (with_reducible assumption) | (with_reducible exact Nat.zero_le _) | contradiction | (simp only [Option.toList_none, Option.toList_some] at hr; with_reducible assumption) | (simp_all; done) | assumption)
  · have hr : Gd E toU 100000 [] [.int 500] () := hr
    (refine nx_ok C (cuts := cut_X7_firstOf) 1000 _ _ _ _ ?_; simp only [w_X7_firstOf, ops_eq, xst_eq, call_eq, oK_eq, Option.toList_some, Option.toList_none, List.cons_append, List.nil_append, List.length_cons, List.length_nil, true_and, and_true, Nat.reduceAdd, call_eq])
    ((repeat' (with_reducible first | apply And.intro | intro _)) <;> first | (with_reducible assumption) | (with_reducible exact Nat.zero_le _) | contradiction | (simp only [Option.toList_none, Option.toList_some] at hr; with_reducible assumption) | (simp_all; done) | assumption)
  · have hr : Gd E toU 100000 [] [.int 2000] () := hr
    (refine nx_ok C (cuts := cut_X7_firstOf) 1000 _ _ _ _ ?_; simp only [w_X7_firstOf, ops_eq, xst_eq, call_eq, oK_eq, Option.toList_some, Option.toList_none, List.cons_append, List.nil_append, List.length_cons, List.length_nil, true_and, and_true, Nat.reduceAdd, call_eq])
    ((repeat' (with_reducible first | apply And.intro | intro _)) <;> first | (with_reducible assumption) | (with_reducible exact Nat.zero_le _) | contradiction | (simp only [Option.toList_none, Option.toList_some] at hr; with_reducible assumption) | (simp_all; done) | assumption)
  · have hr : Gd E toU 100000 [] [.int 2] () := hr
    (refine nx_ok C (cuts := cut_X7_firstOf) 1000 _ _ _ _ ?_; simp only [w_X7_firstOf, ops_eq, xst_eq, call_eq, oK_eq, Option.toList_some, Option.toList_none, List.cons_append, List.nil_append, List.length_cons, List.length_nil, true_and, and_true, Nat.reduceAdd, call_eq])
    ((repeat' (with_reducible first | apply And.intro | intro _)) <;> first | (with_reducible assumption) | (with_reducible exact Nat.zero_le _) | contradiction | (simp only [Option.toList_none, Option.toList_some] at hr; with_reducible assumption) | (simp_all; done) | assumption)
  · have hr : Gd E toU 100000 [] [.int 300] () := hr
    (refine nx_ok C (cuts := cut_X7_firstOf) 1000 _ _ _ _ ?_; simp only [w_X7_firstOf, ops_eq, xst_eq, call_eq, oK_eq, Option.toList_some, Option.toList_none, List.cons_append, List.nil_append, List.length_cons, List.length_nil, true_and, and_true, Nat.reduceAdd, call_eq])
    ((repeat' (with_reducible first | apply And.intro | intro _)) <;> first | (with_reducible assumption) | (with_reducible exact Nat.zero_le _) | contradiction | (simp only [Option.toList_none, Option.toList_some] at hr; with_reducible assumption) | (simp_all; done) | assumption)
  · have hr : Gd E toU 100000 [] [.int 60] () := hr
    (refine nx_ok C (cuts := cut_X7_firstOf) 1000 _ _ _ _ ?_; simp only [w_X7_firstOf, ops_eq, xst_eq, call_eq, oK_eq, Option.toList_some, Option.toList_none, List.cons_append, List.nil_append, List.length_cons, List.length_nil, true_and, and_true, Nat.reduceAdd, call_eq])
    ((repeat' (with_reducible first | apply And.intro | intro _)) <;> first | (with_reducible assumption) | (with_reducible exact Nat.zero_le _) | contradiction | (simp only [Option.toList_none, Option.toList_some] at hr; with_reducible assumption) | (simp_all; done) | assumption)
  · have hr : Gd E toU 100000 [] [.int 180] () := hr
    (refine nx_ok C (cuts := cut_X7_firstOf) 1000 _ _ _ _ ?_; simp only [w_X7_firstOf, ops_eq, xst_eq, call_eq, oK_eq, Option.toList_some, Option.toList_none, List.cons_append, List.nil_append, List.length_cons, List.length_nil, true_and, and_true, Nat.reduceAdd, call_eq])
    ((repeat' (with_reducible first | apply And.intro | intro _)) <;> first | (with_reducible assumption) | (with_reducible exact Nat.zero_le _) | contradiction | (simp only [Option.toList_none, Option.toList_some] at hr; with_reducible assumption) | (simp_all; done) | assumption)
  · have hr : Gd E toU 100000 [] [.int 3000] () := hr
    (refine nx_ok C (cuts := cut_X7_firstOf) 1000 _ _ _ _ ?_; simp only [w_X7_firstOf, ops_eq, xst_eq, call_eq, oK_eq, Option.toList_some, Option.toList_none, List.cons_append, List.nil_append, List.length_cons, List.length_nil, true_and, and_true, Nat.reduceAdd, call_eq])
    ((repeat' (with_reducible first | apply And.intro | intro _)) <;> first | (with_reducible assumption) | (with_reducible exact Nat.zero_le _) | contradiction | (simp only [Option.toList_none, Option.toList_some] at hr; with_reducible assumption) | (simp_all; done) | assumption)
  · have hr : Gd E toU 100000 [] [.int 0] () := hr
    (refine nx_ok C (cuts := cut_X7_firstOf) 1000 _ _ _ _ ?_; simp only [w_X7_firstOf, ops_eq, xst_eq, call_eq, oK_eq, Option.toList_some, Option.toList_none, List.cons_append, List.nil_append, List.length_cons, List.length_nil, true_and, and_true, Nat.reduceAdd, call_eq])
    ((repeat' (with_reducible first | apply And.intro | intro _)) <;> first | (with_reducible assumption) | (with_reducible exact Nat.zero_le _) | contradiction | (simp only [Option.toList_none, Option.toList_some] at hr; with_reducible assumption) | (simp_all; done) | assumption)
def sp_X7_firstOf : Sp Unit := fun av S K => match av with
  | [.int w] => (inR w 0 18 = true) ∧ K (some (.int (firstS w.toNatClampNeg))) (S)
  | _ => False
theorem se_X7_firstOf (w : Int32) (S : Unit) (K : Option Value → Unit → Prop) : sp_X7_firstOf [.int w] S K = ((inR w 0 18 = true) ∧ K (some (.int (firstS w.toNatClampNeg))) (S)) := rfl
theorem spok_X7_firstOf : SpOk yX7_firstOf cX7_firstOf 1 (some .int) 0 toU sp_X7_firstOf := by
  intro av S K h
  unfold sp_X7_firstOf at h
  split at h
  · rename_i w; exact ⟨some (.int (firstS w.toNatClampNeg)), S, trivial, con_X7_firstOf S w h.1, h.2⟩
  · exact h.elim
theorem at_set2 {w : Int32} (hw : vp_in w 19) (S : ST) : ∃ k, k < 19 ∧ w = nI k ∧ w.toNatClampNeg = k ∧ vp_in (20 + w) 170 ∧ (20 + w).toNatClampNeg = 20 + k ∧ abs S (20 + k) = S.settings k ∧ ∀ x, wr S (20 + k) x = S.sSettings (upd S.settings k x) := by
  obtain ⟨k, hk, rfl⟩ := vp_in_of hw (by omega)
  have e : (20 : Int32) + nI k = nI (20 + k) := by rw [show (20 : Int32) = nI 20 from rfl, nI_add]
  refine ⟨k, hk, rfl, nI_clamp (by omega), ?_, ?_, ?_, fun x => ?_⟩
  · rw [e]; exact vp_in_nI (by omega) (by omega)
  · rw [e]; exact nI_clamp (by omega)
  · unfold abs blk
    rw [if_neg (by omega), if_pos (by omega), show 20 + k - 20 = k by omega]
  · unfold wr
    rw [if_neg (by omega), if_pos (by omega), show 20 + k - 20 = k by omega]
theorem isSet_v {w v : Int32} (h : isSet w v = true) : vp_in w 19 := by
  unfold isSet at h
  rw [Bool.and_eq_true] at h
  obtain ⟨n, hn, rfl, _⟩ := inR_nI (b := 18) h.1 (by omega)
  exact vp_in_nI (by omega) (by omega)
def cod_X7_set : List (Nat × Op QT) := [(0, O_iload 1 1), (1, O_iload 2 1), (2, O_callS 2 sp_X7_isSetting), (5, O_if_ne 11), (8, O_int (-1000001) 2), (10, O_iret), (11, O_aload 0 1), (12, O_callV 0 0 (fun S => S) (fun _ S' => S') spa_X7_save), (15, O_aload 0 1), (16, O_iload 1 1), (17, O_callV 1 0 (fun S => S) (fun _ S' => S') sp_X7_setting), (20, O_istore 3 1), (21, O_aload 0 1), (22, O_getf aW 7 0), (25, O_int 20 2), (27, O_iload 1 1), (28, O_iadd), (29, O_iload 2 1), (30, O_asti aW aW_wi), (31, O_iload 3 1), (32, O_iret)]
abbrev cut_X7_set : List Nat := []
set_option maxRecDepth 100000 in
theorem okc_X7_set {E : En} (F : Fx E RX7 cX7_set 4 2) (G : Fr E (some .int)) : CodOk E aW cod_X7_set := by
  unfold CodOk cod_X7_set
  refine List.forall_mem_cons.mpr ⟨ok_iload_n F dX7_set_0 rfl (by decide), ?_⟩
  refine List.forall_mem_cons.mpr ⟨ok_iload_n F dX7_set_1 rfl (by decide), ?_⟩
  refine List.forall_mem_cons.mpr ⟨ok_callS F spok_X7_isSetting (by decide +kernel) rfl (by decide) dX7_set_2 (by decide), ?_⟩
  refine List.forall_mem_cons.mpr ⟨ok_if_ne F dX7_set_5 (by decide) (by decide) (by decide), ?_⟩
  refine List.forall_mem_cons.mpr ⟨ok_ldc F (ix := 62) (wsHas_mem (l := [Jvm.Cond.constant RX7 62 (-1000001)]) (by decide +kernel) (by simp)) dX7_set_8 (by decide), ?_⟩
  refine List.forall_mem_cons.mpr ⟨ok_iret F G dX7_set_10 (by decide), ?_⟩
  refine List.forall_mem_cons.mpr ⟨ok_aload_n F dX7_set_11 rfl (by decide), ?_⟩
  refine List.forall_mem_cons.mpr ⟨ok_callV F spoka_X7_save (ln_id aW) rcv_aW (by decide +kernel) (by decide) dX7_set_12 (by decide), ?_⟩
  refine List.forall_mem_cons.mpr ⟨ok_aload_n F dX7_set_15 rfl (by decide), ?_⟩
  refine List.forall_mem_cons.mpr ⟨ok_iload_n F dX7_set_16 rfl (by decide), ?_⟩
  refine List.forall_mem_cons.mpr ⟨ok_callV F spok_X7_setting (ln_id aW) rcv_aW (by decide +kernel) (by decide) dX7_set_17 (by decide), ?_⟩
  refine List.forall_mem_cons.mpr ⟨ok_istore_n F dX7_set_20 rfl (by decide) (by decide), ?_⟩
  refine List.forall_mem_cons.mpr ⟨ok_aload_n F dX7_set_21 rfl (by decide), ?_⟩
  refine List.forall_mem_cons.mpr ⟨ok_getf F flX7_7 dX7_set_22 (by decide), ?_⟩
  refine List.forall_mem_cons.mpr ⟨ok_bipush F dX7_set_25 (by decide) (by decide), ?_⟩
  refine List.forall_mem_cons.mpr ⟨ok_iload_n F dX7_set_27 rfl (by decide), ?_⟩
  refine List.forall_mem_cons.mpr ⟨ok_iadd F dX7_set_28 (by decide), ?_⟩
  refine List.forall_mem_cons.mpr ⟨ok_iload_n F dX7_set_29 rfl (by decide), ?_⟩
  refine List.forall_mem_cons.mpr ⟨ok_asti F aW_wok dX7_set_30 (by decide), ?_⟩
  refine List.forall_mem_cons.mpr ⟨ok_iload_n F dX7_set_31 rfl (by decide), ?_⟩
  refine List.forall_mem_cons.mpr ⟨ok_iret F G dX7_set_32 (by decide), ?_⟩
  exact fun _ h => absurd h List.not_mem_nil
set_option maxRecDepth 100000 in
theorem w_X7_set : (∀ (K : Kt QT) (n : Nat) (L : xL) (st : List Value) (S : QT), nx cod_X7_set cut_X7_set K (n + 1) 0 L st S = (O_iload 1 1) (nx cod_X7_set cut_X7_set K n) 0 L st S) ∧
  (∀ (K : Kt QT) (n : Nat) (L : xL) (st : List Value) (S : QT), nx cod_X7_set cut_X7_set K (n + 1) 1 L st S = (O_iload 2 1) (nx cod_X7_set cut_X7_set K n) 1 L st S) ∧
  (∀ (K : Kt QT) (n : Nat) (L : xL) (st : List Value) (S : QT), nx cod_X7_set cut_X7_set K (n + 1) 2 L st S = (O_callS 2 sp_X7_isSetting) (nx cod_X7_set cut_X7_set K n) 2 L st S) ∧
  (∀ (K : Kt QT) (n : Nat) (L : xL) (st : List Value) (S : QT), nx cod_X7_set cut_X7_set K (n + 1) 5 L st S = (O_if_ne 11) (nx cod_X7_set cut_X7_set K n) 5 L st S) ∧
  (∀ (K : Kt QT) (n : Nat) (L : xL) (st : List Value) (S : QT), nx cod_X7_set cut_X7_set K (n + 1) 8 L st S = (O_int (-1000001) 2) (nx cod_X7_set cut_X7_set K n) 8 L st S) ∧
  (∀ (K : Kt QT) (n : Nat) (L : xL) (st : List Value) (S : QT), nx cod_X7_set cut_X7_set K (n + 1) 10 L st S = (O_iret) (nx cod_X7_set cut_X7_set K n) 10 L st S) ∧
  (∀ (K : Kt QT) (n : Nat) (L : xL) (st : List Value) (S : QT), nx cod_X7_set cut_X7_set K (n + 1) 11 L st S = (O_aload 0 1) (nx cod_X7_set cut_X7_set K n) 11 L st S) ∧
  (∀ (K : Kt QT) (n : Nat) (L : xL) (st : List Value) (S : QT), nx cod_X7_set cut_X7_set K (n + 1) 12 L st S = (O_callV 0 0 (fun S => S) (fun _ S' => S') spa_X7_save) (nx cod_X7_set cut_X7_set K n) 12 L st S) ∧
  (∀ (K : Kt QT) (n : Nat) (L : xL) (st : List Value) (S : QT), nx cod_X7_set cut_X7_set K (n + 1) 15 L st S = (O_aload 0 1) (nx cod_X7_set cut_X7_set K n) 15 L st S) ∧
  (∀ (K : Kt QT) (n : Nat) (L : xL) (st : List Value) (S : QT), nx cod_X7_set cut_X7_set K (n + 1) 16 L st S = (O_iload 1 1) (nx cod_X7_set cut_X7_set K n) 16 L st S) ∧
  (∀ (K : Kt QT) (n : Nat) (L : xL) (st : List Value) (S : QT), nx cod_X7_set cut_X7_set K (n + 1) 17 L st S = (O_callV 1 0 (fun S => S) (fun _ S' => S') sp_X7_setting) (nx cod_X7_set cut_X7_set K n) 17 L st S) ∧
  (∀ (K : Kt QT) (n : Nat) (L : xL) (st : List Value) (S : QT), nx cod_X7_set cut_X7_set K (n + 1) 20 L st S = (O_istore 3 1) (nx cod_X7_set cut_X7_set K n) 20 L st S) ∧
  (∀ (K : Kt QT) (n : Nat) (L : xL) (st : List Value) (S : QT), nx cod_X7_set cut_X7_set K (n + 1) 21 L st S = (O_aload 0 1) (nx cod_X7_set cut_X7_set K n) 21 L st S) ∧
  (∀ (K : Kt QT) (n : Nat) (L : xL) (st : List Value) (S : QT), nx cod_X7_set cut_X7_set K (n + 1) 22 L st S = (O_getf aW 7 0) (nx cod_X7_set cut_X7_set K n) 22 L st S) ∧
  (∀ (K : Kt QT) (n : Nat) (L : xL) (st : List Value) (S : QT), nx cod_X7_set cut_X7_set K (n + 1) 25 L st S = (O_int 20 2) (nx cod_X7_set cut_X7_set K n) 25 L st S) ∧
  (∀ (K : Kt QT) (n : Nat) (L : xL) (st : List Value) (S : QT), nx cod_X7_set cut_X7_set K (n + 1) 27 L st S = (O_iload 1 1) (nx cod_X7_set cut_X7_set K n) 27 L st S) ∧
  (∀ (K : Kt QT) (n : Nat) (L : xL) (st : List Value) (S : QT), nx cod_X7_set cut_X7_set K (n + 1) 28 L st S = (O_iadd) (nx cod_X7_set cut_X7_set K n) 28 L st S) ∧
  (∀ (K : Kt QT) (n : Nat) (L : xL) (st : List Value) (S : QT), nx cod_X7_set cut_X7_set K (n + 1) 29 L st S = (O_iload 2 1) (nx cod_X7_set cut_X7_set K n) 29 L st S) ∧
  (∀ (K : Kt QT) (n : Nat) (L : xL) (st : List Value) (S : QT), nx cod_X7_set cut_X7_set K (n + 1) 30 L st S = (O_asti aW aW_wi) (nx cod_X7_set cut_X7_set K n) 30 L st S) ∧
  (∀ (K : Kt QT) (n : Nat) (L : xL) (st : List Value) (S : QT), nx cod_X7_set cut_X7_set K (n + 1) 31 L st S = (O_iload 3 1) (nx cod_X7_set cut_X7_set K n) 31 L st S) ∧
  (∀ (K : Kt QT) (n : Nat) (L : xL) (st : List Value) (S : QT), nx cod_X7_set cut_X7_set K (n + 1) 32 L st S = (O_iret) (nx cod_X7_set cut_X7_set K n) 32 L st S) ∧
  (∀ (K : Kt QT) (n : Nat) (L : xL) (st : List Value) (S : QT), nx cod_X7_set cut_X7_set K (n + 1) 100000 L st S = K 100000 L st S) := by
  repeat' apply And.intro
  all_goals (intros; rfl)
set_option maxRecDepth 100000 in
theorem mk_X7_set {P P' : QT} {r : Option Value} {p0 : Int32} {p1 : Int32} (body : ∀ E : En, CodOk E aW cod_X7_set → Gd E aW 100000 [] r.toList P' → Gd E aW 0 [some (.ref 0), some (.int p0), some (.int p1), none] [] P) : Con yX7_set cX7_set 4 (some .int) 2 aW [.ref 0, .int p0, .int p1] P r P' :=
  Con.of (by decide) ((aW_len P').trans (aW_len P).symm) rfl (Nat.le_of_ble_eq_true rfl) (fun E F G hr => body E (okc_X7_set F G) hr)
set_option maxRecDepth 10000 in
theorem con_X7_set (S : ST) (M : MT) (fl : Bool) (w : Int32) (v : Int32) (hp : isN M.savedMany M.k 4) : Con yX7_set cX7_set 4 (some .int) 2 aW [.ref 0, .int w, .int v] (S, M, fl) (some (.int (if isSet w v = false then -1000001 else S.settings w.toNatClampNeg))) ((if isSet w v = true then (S.sSettings (upd S.settings w.toNatClampNeg v), M.saveA S, fl) else (S, M, fl))) := by
  refine mk_X7_set (fun E C hr => ?_)
  by_cases c : isSet w v = true
  · rw [if_neg (by rw [c]; decide), if_pos c] at hr
    have hv := isSet_v c
    obtain ⟨k, hk, ew, ec, e1, e2, e3, e4⟩ := at_set2 hv S
    have w1 := fun x => sn_wr S (M.saveA S) fl (20 + k) x (by omega) (by omega) (by omega)
    simp only [e4] at w1
    rw [ec] at hr
    clear ew
    (refine nx_ok C (cuts := cut_X7_set) 1000 _ _ _ _ ?_; simp only [w_X7_set, ops_eq, xst_eq, call_eq, oK_eq, Option.toList_some, Option.toList_none, List.cons_append, List.nil_append, List.length_cons, List.length_nil, true_and, and_true, Nat.reduceAdd, aW_F, aW_A, aW_P, aW_w, abs_eq, O_asti_eq, v170, cl_eq, ST_id, MT_gs, ST_gs, PT_gs, ZT_gs, NT_gs, ET_gs, se_X7_isSetting, sea_X7_save, se_X7_setting, bI_eq, c, hp, hv, ec, e1, e2, w1])
    ((repeat' (with_reducible first | apply And.intro | intro _)) <;> first | (with_reducible assumption) | (with_reducible exact Nat.zero_le _) | contradiction | (simp only [Option.toList_none, Option.toList_some] at hr; with_reducible assumption) | (simp_all; done) | assumption)
  · rw [if_neg c] at hr
    have c := bnot c
    rw [if_pos c] at hr
    (refine nx_ok C (cuts := cut_X7_set) 1000 _ _ _ _ ?_; simp only [w_X7_set, ops_eq, xst_eq, call_eq, oK_eq, Option.toList_some, Option.toList_none, List.cons_append, List.nil_append, List.length_cons, List.length_nil, true_and, and_true, Nat.reduceAdd, aW_F, aW_A, aW_P, aW_w, abs_eq, O_asti_eq, v170, cl_eq, ST_id, MT_gs, ST_gs, PT_gs, ZT_gs, NT_gs, ET_gs, se_X7_isSetting, sea_X7_save, se_X7_setting, bI_eq, c])
    ((repeat' (with_reducible first | apply And.intro | intro _)) <;> first | (with_reducible assumption) | (with_reducible exact Nat.zero_le _) | contradiction | (simp only [Option.toList_none, Option.toList_some] at hr; with_reducible assumption) | (simp_all; done) | assumption)
def spc_X7_set (S : ST) (M : MT) (fl : Bool) (w : Int32) (v : Int32) (K : Option Value → QT → Prop) : Prop := (isN M.savedMany M.k 4) ∧ K (some (.int (if isSet w v = false then -1000001 else S.settings w.toNatClampNeg))) ((if isSet w v = true then (S.sSettings (upd S.settings w.toNatClampNeg v), M.saveA S, fl) else (S, M, fl)))
def sp_X7_set : Sp QT := fun av q K => match av with
  | [.ref 0, .int w, .int v] => spc_X7_set q.1 q.2.1 q.2.2 w v K
  | _ => False
theorem se_X7_set (S : ST) (M : MT) (fl : Bool) (w : Int32) (v : Int32) (K : Option Value → QT → Prop) : sp_X7_set [.ref 0, .int w, .int v] (S, M, fl) K = ((isN M.savedMany M.k 4) ∧ K (some (.int (if isSet w v = false then -1000001 else S.settings w.toNatClampNeg))) ((if isSet w v = true then (S.sSettings (upd S.settings w.toNatClampNeg v), M.saveA S, fl) else (S, M, fl)))) := rfl
theorem spok_X7_set : SpOk yX7_set cX7_set 4 (some .int) 2 aW sp_X7_set := by
  intro av q K h
  unfold sp_X7_set at h
  split at h
  · rename_i w v; refine ⟨_, _, ?_, con_X7_set q.1 q.2.1 q.2.2 w v h.1, h.2⟩; trivial
  · exact h.elim
