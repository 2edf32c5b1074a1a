/-! decode rows -/
theorem dX7_init_0 : decode cX7_init 0 = .ok (.aload_n 0, 1) := by decide +kernel
theorem dX7_init_1 : decode cX7_init 1 = .ok (.invokespecial 1, 3) := by decide +kernel
theorem dX7_init_4 : decode cX7_init 4 = .ok (.aload_n 0, 1) := by decide +kernel
theorem dX7_init_5 : decode cX7_init 5 = .ok (.sipush 170, 3) := by decide +kernel
theorem dX7_init_8 : decode cX7_init 8 = .ok (.newarray .int, 2) := by decide +kernel
theorem dX7_init_10 : decode cX7_init 10 = .ok (.putfield 7, 3) := by decide +kernel
theorem dX7_init_13 : decode cX7_init 13 = .ok (.aload_n 0, 1) := by decide +kernel
theorem dX7_init_14 : decode cX7_init 14 = .ok (.sipush 680, 3) := by decide +kernel
theorem dX7_init_17 : decode cX7_init 17 = .ok (.newarray .int, 2) := by decide +kernel
theorem dX7_init_19 : decode cX7_init 19 = .ok (.putfield 13, 3) := by decide +kernel
theorem dX7_init_22 : decode cX7_init 22 = .ok (.aload_n 0, 1) := by decide +kernel
theorem dX7_init_23 : decode cX7_init 23 = .ok (.sipush 170, 3) := by decide +kernel
theorem dX7_init_26 : decode cX7_init 26 = .ok (.newarray .int, 2) := by decide +kernel
theorem dX7_init_28 : decode cX7_init 28 = .ok (.putfield 16, 3) := by decide +kernel
theorem dX7_init_31 : decode cX7_init 31 = .ok (.aload_n 0, 1) := by decide +kernel
theorem dX7_init_32 : decode cX7_init 32 = .ok (.bipush 60, 2) := by decide +kernel
theorem dX7_init_34 : decode cX7_init 34 = .ok (.newarray .int, 2) := by decide +kernel
theorem dX7_init_36 : decode cX7_init 36 = .ok (.putfield 19, 3) := by decide +kernel
theorem dX7_init_39 : decode cX7_init 39 = .ok (.aload_n 0, 1) := by decide +kernel
theorem dX7_init_40 : decode cX7_init 40 = .ok (.getfield 7, 3) := by decide +kernel
theorem dX7_init_43 : decode cX7_init 43 = .ok (.iconst 2, 1) := by decide +kernel
theorem dX7_init_44 : decode cX7_init 44 = .ok (.sipush 10000, 3) := by decide +kernel
theorem dX7_init_47 : decode cX7_init 47 = .ok (.iastore, 1) := by decide +kernel
theorem dX7_init_48 : decode cX7_init 48 = .ok (.aload_n 0, 1) := by decide +kernel
theorem dX7_init_49 : decode cX7_init 49 = .ok (.getfield 7, 3) := by decide +kernel
theorem dX7_init_52 : decode cX7_init 52 = .ok (.iconst 4, 1) := by decide +kernel
theorem dX7_init_53 : decode cX7_init 53 = .ok (.iconst (-1), 1) := by decide +kernel
theorem dX7_init_54 : decode cX7_init 54 = .ok (.iastore, 1) := by decide +kernel
theorem dX7_init_55 : decode cX7_init 55 = .ok (.iconst 0, 1) := by decide +kernel
theorem dX7_init_56 : decode cX7_init 56 = .ok (.istore_n 1, 1) := by decide +kernel
theorem dX7_init_57 : decode cX7_init 57 = .ok (.iload_n 1, 1) := by decide +kernel
theorem dX7_init_58 : decode cX7_init 58 = .ok (.bipush 19, 2) := by decide +kernel
theorem dX7_init_60 : decode cX7_init 60 = .ok (.if_icmp .ge 22, 3) := by decide +kernel
theorem dX7_init_63 : decode cX7_init 63 = .ok (.aload_n 0, 1) := by decide +kernel
theorem dX7_init_64 : decode cX7_init 64 = .ok (.getfield 7, 3) := by decide +kernel
theorem dX7_init_67 : decode cX7_init 67 = .ok (.bipush 20, 2) := by decide +kernel
theorem dX7_init_69 : decode cX7_init 69 = .ok (.iload_n 1, 1) := by decide +kernel
theorem dX7_init_70 : decode cX7_init 70 = .ok (.iadd, 1) := by decide +kernel
theorem dX7_init_71 : decode cX7_init 71 = .ok (.iload_n 1, 1) := by decide +kernel
theorem dX7_init_72 : decode cX7_init 72 = .ok (.invokestatic 22, 3) := by decide +kernel
theorem dX7_init_75 : decode cX7_init 75 = .ok (.iastore, 1) := by decide +kernel
theorem dX7_init_76 : decode cX7_init 76 = .ok (.iinc 1 1, 3) := by decide +kernel
theorem dX7_init_79 : decode cX7_init 79 = .ok (.goto (-22), 3) := by decide +kernel
theorem dX7_init_82 : decode cX7_init 82 = .ok (.return_, 1) := by decide +kernel
theorem dX7_in_0 : decode cX7_in 0 = .ok (.lload_n 0, 1) := by decide +kernel
theorem dX7_in_1 : decode cX7_in 1 = .ok (.lload_n 2, 1) := by decide +kernel
theorem dX7_in_2 : decode cX7_in 2 = .ok (.lcmp, 1) := by decide +kernel
theorem dX7_in_3 : decode cX7_in 3 = .ok (.ifCond .lt 14, 3) := by decide +kernel
theorem dX7_in_6 : decode cX7_in 6 = .ok (.lload_n 0, 1) := by decide +kernel
theorem dX7_in_7 : decode cX7_in 7 = .ok (.lload 4, 2) := by decide +kernel
theorem dX7_in_9 : decode cX7_in 9 = .ok (.lcmp, 1) := by decide +kernel
theorem dX7_in_10 : decode cX7_in 10 = .ok (.ifCond .gt 7, 3) := by decide +kernel
theorem dX7_in_13 : decode cX7_in 13 = .ok (.iconst 1, 1) := by decide +kernel
theorem dX7_in_14 : decode cX7_in 14 = .ok (.goto 4, 3) := by decide +kernel
theorem dX7_in_17 : decode cX7_in 17 = .ok (.iconst 0, 1) := by decide +kernel
theorem dX7_in_18 : decode cX7_in 18 = .ok (.ireturn, 1) := by decide +kernel
theorem dX7_firstOf_0 : decode cX7_firstOf 0 = .ok (.iload_n 0, 1) := by decide +kernel
theorem dX7_firstOf_1 : decode cX7_firstOf 1 = .ok (.tableswitch 128 0 17 #[87, 91, 91, 94, 97, 101, 103, 105, 108, 105, 91, 97, 110, 114, 116, 105, 120, 124], 87) := by decide +kernel
theorem dX7_firstOf_88 : decode cX7_firstOf 88 = .ok (.sipush 400, 3) := by decide +kernel
theorem dX7_firstOf_91 : decode cX7_firstOf 91 = .ok (.ireturn, 1) := by decide +kernel
theorem dX7_firstOf_92 : decode cX7_firstOf 92 = .ok (.bipush 20, 2) := by decide +kernel
theorem dX7_firstOf_94 : decode cX7_firstOf 94 = .ok (.ireturn, 1) := by decide +kernel
theorem dX7_firstOf_95 : decode cX7_firstOf 95 = .ok (.bipush 100, 2) := by decide +kernel
theorem dX7_firstOf_97 : decode cX7_firstOf 97 = .ok (.ireturn, 1) := by decide +kernel
theorem dX7_firstOf_98 : decode cX7_firstOf 98 = .ok (.sipush 500, 3) := by decide +kernel
theorem dX7_firstOf_101 : decode cX7_firstOf 101 = .ok (.ireturn, 1) := by decide +kernel
theorem dX7_firstOf_102 : decode cX7_firstOf 102 = .ok (.iconst 3, 1) := by decide +kernel
theorem dX7_firstOf_103 : decode cX7_firstOf 103 = .ok (.ireturn, 1) := by decide +kernel
theorem dX7_firstOf_104 : decode cX7_firstOf 104 = .ok (.iconst 5, 1) := by decide +kernel
theorem dX7_firstOf_105 : decode cX7_firstOf 105 = .ok (.ireturn, 1) := by decide +kernel
theorem dX7_firstOf_106 : decode cX7_firstOf 106 = .ok (.bipush 60, 2) := by decide +kernel
theorem dX7_firstOf_108 : decode cX7_firstOf 108 = .ok (.ireturn, 1) := by decide +kernel
theorem dX7_firstOf_109 : decode cX7_firstOf 109 = .ok (.iconst 4, 1) := by decide +kernel
theorem dX7_firstOf_110 : decode cX7_firstOf 110 = .ok (.ireturn, 1) := by decide +kernel
theorem dX7_firstOf_111 : decode cX7_firstOf 111 = .ok (.sipush 2000, 3) := by decide +kernel
theorem dX7_firstOf_114 : decode cX7_firstOf 114 = .ok (.ireturn, 1) := by decide +kernel
theorem dX7_firstOf_115 : decode cX7_firstOf 115 = .ok (.iconst 2, 1) := by decide +kernel
theorem dX7_firstOf_116 : decode cX7_firstOf 116 = .ok (.ireturn, 1) := by decide +kernel
theorem dX7_firstOf_117 : decode cX7_firstOf 117 = .ok (.sipush 300, 3) := by decide +kernel
theorem dX7_firstOf_120 : decode cX7_firstOf 120 = .ok (.ireturn, 1) := by decide +kernel
theorem dX7_firstOf_121 : decode cX7_firstOf 121 = .ok (.sipush 180, 3) := by decide +kernel
theorem dX7_firstOf_124 : decode cX7_firstOf 124 = .ok (.ireturn, 1) := by decide +kernel
theorem dX7_firstOf_125 : decode cX7_firstOf 125 = .ok (.sipush 3000, 3) := by decide +kernel
theorem dX7_firstOf_128 : decode cX7_firstOf 128 = .ok (.ireturn, 1) := by decide +kernel
theorem dX7_firstOf_129 : decode cX7_firstOf 129 = .ok (.iconst 0, 1) := by decide +kernel
theorem dX7_firstOf_130 : decode cX7_firstOf 130 = .ok (.ireturn, 1) := by decide +kernel
theorem dX7_isSetting_0 : decode cX7_isSetting 0 = .ok (.iload_n 0, 1) := by decide +kernel
theorem dX7_isSetting_1 : decode cX7_isSetting 1 = .ok (.tableswitch 221 0 17 #[87, 99, 109, 119, 129, 141, 141, 151, 141, 161, 171, 181, 181, 141, 151, 191, 201, 211], 87) := by decide +kernel
theorem dX7_isSetting_88 : decode cX7_isSetting 88 = .ok (.iload_n 1, 1) := by decide +kernel
theorem dX7_isSetting_89 : decode cX7_isSetting 89 = .ok (.i2l, 1) := by decide +kernel
theorem dX7_isSetting_90 : decode cX7_isSetting 90 = .ok (.ldc2_w 26, 3) := by decide +kernel
theorem dX7_isSetting_93 : decode cX7_isSetting 93 = .ok (.ldc2_w 28, 3) := by decide +kernel
theorem dX7_isSetting_96 : decode cX7_isSetting 96 = .ok (.invokestatic 30, 3) := by decide +kernel
theorem dX7_isSetting_99 : decode cX7_isSetting 99 = .ok (.ireturn, 1) := by decide +kernel
theorem dX7_isSetting_100 : decode cX7_isSetting 100 = .ok (.iload_n 1, 1) := by decide +kernel
theorem dX7_isSetting_101 : decode cX7_isSetting 101 = .ok (.i2l, 1) := by decide +kernel
theorem dX7_isSetting_102 : decode cX7_isSetting 102 = .ok (.lconst 1, 1) := by decide +kernel
theorem dX7_isSetting_103 : decode cX7_isSetting 103 = .ok (.ldc2_w 26, 3) := by decide +kernel
theorem dX7_isSetting_106 : decode cX7_isSetting 106 = .ok (.invokestatic 30, 3) := by decide +kernel
theorem dX7_isSetting_109 : decode cX7_isSetting 109 = .ok (.ireturn, 1) := by decide +kernel
theorem dX7_isSetting_110 : decode cX7_isSetting 110 = .ok (.iload_n 1, 1) := by decide +kernel
theorem dX7_isSetting_111 : decode cX7_isSetting 111 = .ok (.i2l, 1) := by decide +kernel
theorem dX7_isSetting_112 : decode cX7_isSetting 112 = .ok (.lconst 0, 1) := by decide +kernel
theorem dX7_isSetting_113 : decode cX7_isSetting 113 = .ok (.ldc2_w 26, 3) := by decide +kernel
theorem dX7_isSetting_116 : decode cX7_isSetting 116 = .ok (.invokestatic 30, 3) := by decide +kernel
theorem dX7_isSetting_119 : decode cX7_isSetting 119 = .ok (.ireturn, 1) := by decide +kernel
theorem dX7_isSetting_120 : decode cX7_isSetting 120 = .ok (.iload_n 1, 1) := by decide +kernel
theorem dX7_isSetting_121 : decode cX7_isSetting 121 = .ok (.i2l, 1) := by decide +kernel
theorem dX7_isSetting_122 : decode cX7_isSetting 122 = .ok (.lconst 1, 1) := by decide +kernel
theorem dX7_isSetting_123 : decode cX7_isSetting 123 = .ok (.ldc2_w 34, 3) := by decide +kernel
theorem dX7_isSetting_126 : decode cX7_isSetting 126 = .ok (.invokestatic 30, 3) := by decide +kernel
theorem dX7_isSetting_129 : decode cX7_isSetting 129 = .ok (.ireturn, 1) := by decide +kernel
theorem dX7_isSetting_130 : decode cX7_isSetting 130 = .ok (.iload_n 1, 1) := by decide +kernel
theorem dX7_isSetting_131 : decode cX7_isSetting 131 = .ok (.i2l, 1) := by decide +kernel
theorem dX7_isSetting_132 : decode cX7_isSetting 132 = .ok (.ldc2_w 36, 3) := by decide +kernel
theorem dX7_isSetting_135 : decode cX7_isSetting 135 = .ok (.ldc2_w 28, 3) := by decide +kernel
theorem dX7_isSetting_138 : decode cX7_isSetting 138 = .ok (.invokestatic 30, 3) := by decide +kernel
theorem dX7_isSetting_141 : decode cX7_isSetting 141 = .ok (.ireturn, 1) := by decide +kernel
theorem dX7_isSetting_142 : decode cX7_isSetting 142 = .ok (.iload_n 1, 1) := by decide +kernel
theorem dX7_isSetting_143 : decode cX7_isSetting 143 = .ok (.i2l, 1) := by decide +kernel
theorem dX7_isSetting_144 : decode cX7_isSetting 144 = .ok (.lconst 1, 1) := by decide +kernel
theorem dX7_isSetting_145 : decode cX7_isSetting 145 = .ok (.ldc2_w 38, 3) := by decide +kernel
theorem dX7_isSetting_148 : decode cX7_isSetting 148 = .ok (.invokestatic 30, 3) := by decide +kernel
theorem dX7_isSetting_151 : decode cX7_isSetting 151 = .ok (.ireturn, 1) := by decide +kernel
theorem dX7_isSetting_152 : decode cX7_isSetting 152 = .ok (.iload_n 1, 1) := by decide +kernel
theorem dX7_isSetting_153 : decode cX7_isSetting 153 = .ok (.i2l, 1) := by decide +kernel
theorem dX7_isSetting_154 : decode cX7_isSetting 154 = .ok (.lconst 0, 1) := by decide +kernel
theorem dX7_isSetting_155 : decode cX7_isSetting 155 = .ok (.ldc2_w 40, 3) := by decide +kernel
theorem dX7_isSetting_158 : decode cX7_isSetting 158 = .ok (.invokestatic 30, 3) := by decide +kernel
theorem dX7_isSetting_161 : decode cX7_isSetting 161 = .ok (.ireturn, 1) := by decide +kernel
theorem dX7_isSetting_162 : decode cX7_isSetting 162 = .ok (.iload_n 1, 1) := by decide +kernel
theorem dX7_isSetting_163 : decode cX7_isSetting 163 = .ok (.i2l, 1) := by decide +kernel
theorem dX7_isSetting_164 : decode cX7_isSetting 164 = .ok (.lconst 1, 1) := by decide +kernel
theorem dX7_isSetting_165 : decode cX7_isSetting 165 = .ok (.ldc2_w 36, 3) := by decide +kernel
theorem dX7_isSetting_168 : decode cX7_isSetting 168 = .ok (.invokestatic 30, 3) := by decide +kernel
theorem dX7_isSetting_171 : decode cX7_isSetting 171 = .ok (.ireturn, 1) := by decide +kernel
theorem dX7_isSetting_172 : decode cX7_isSetting 172 = .ok (.iload_n 1, 1) := by decide +kernel
theorem dX7_isSetting_173 : decode cX7_isSetting 173 = .ok (.i2l, 1) := by decide +kernel
theorem dX7_isSetting_174 : decode cX7_isSetting 174 = .ok (.lconst 1, 1) := by decide +kernel
theorem dX7_isSetting_175 : decode cX7_isSetting 175 = .ok (.ldc2_w 42, 3) := by decide +kernel
theorem dX7_isSetting_178 : decode cX7_isSetting 178 = .ok (.invokestatic 30, 3) := by decide +kernel
theorem dX7_isSetting_181 : decode cX7_isSetting 181 = .ok (.ireturn, 1) := by decide +kernel
theorem dX7_isSetting_182 : decode cX7_isSetting 182 = .ok (.iload_n 1, 1) := by decide +kernel
theorem dX7_isSetting_183 : decode cX7_isSetting 183 = .ok (.i2l, 1) := by decide +kernel
theorem dX7_isSetting_184 : decode cX7_isSetting 184 = .ok (.lconst 0, 1) := by decide +kernel
theorem dX7_isSetting_185 : decode cX7_isSetting 185 = .ok (.ldc2_w 44, 3) := by decide +kernel
theorem dX7_isSetting_188 : decode cX7_isSetting 188 = .ok (.invokestatic 30, 3) := by decide +kernel
theorem dX7_isSetting_191 : decode cX7_isSetting 191 = .ok (.ireturn, 1) := by decide +kernel
theorem dX7_isSetting_192 : decode cX7_isSetting 192 = .ok (.iload_n 1, 1) := by decide +kernel
theorem dX7_isSetting_193 : decode cX7_isSetting 193 = .ok (.i2l, 1) := by decide +kernel
theorem dX7_isSetting_194 : decode cX7_isSetting 194 = .ok (.lconst 0, 1) := by decide +kernel
theorem dX7_isSetting_195 : decode cX7_isSetting 195 = .ok (.ldc2_w 46, 3) := by decide +kernel
theorem dX7_isSetting_198 : decode cX7_isSetting 198 = .ok (.invokestatic 30, 3) := by decide +kernel
theorem dX7_isSetting_201 : decode cX7_isSetting 201 = .ok (.ireturn, 1) := by decide +kernel
theorem dX7_isSetting_202 : decode cX7_isSetting 202 = .ok (.iload_n 1, 1) := by decide +kernel
theorem dX7_isSetting_203 : decode cX7_isSetting 203 = .ok (.i2l, 1) := by decide +kernel
theorem dX7_isSetting_204 : decode cX7_isSetting 204 = .ok (.lconst 1, 1) := by decide +kernel
theorem dX7_isSetting_205 : decode cX7_isSetting 205 = .ok (.ldc2_w 48, 3) := by decide +kernel
theorem dX7_isSetting_208 : decode cX7_isSetting 208 = .ok (.invokestatic 30, 3) := by decide +kernel
theorem dX7_isSetting_211 : decode cX7_isSetting 211 = .ok (.ireturn, 1) := by decide +kernel
theorem dX7_isSetting_212 : decode cX7_isSetting 212 = .ok (.iload_n 1, 1) := by decide +kernel
theorem dX7_isSetting_213 : decode cX7_isSetting 213 = .ok (.i2l, 1) := by decide +kernel
theorem dX7_isSetting_214 : decode cX7_isSetting 214 = .ok (.lconst 0, 1) := by decide +kernel
theorem dX7_isSetting_215 : decode cX7_isSetting 215 = .ok (.ldc2_w 50, 3) := by decide +kernel
theorem dX7_isSetting_218 : decode cX7_isSetting 218 = .ok (.invokestatic 30, 3) := by decide +kernel
theorem dX7_isSetting_221 : decode cX7_isSetting 221 = .ok (.ireturn, 1) := by decide +kernel
theorem dX7_isSetting_222 : decode cX7_isSetting 222 = .ok (.iload_n 0, 1) := by decide +kernel
theorem dX7_isSetting_223 : decode cX7_isSetting 223 = .ok (.bipush 18, 2) := by decide +kernel
theorem dX7_isSetting_225 : decode cX7_isSetting 225 = .ok (.if_icmp .ne 19, 3) := by decide +kernel
theorem dX7_isSetting_228 : decode cX7_isSetting 228 = .ok (.iload_n 1, 1) := by decide +kernel
theorem dX7_isSetting_229 : decode cX7_isSetting 229 = .ok (.i2l, 1) := by decide +kernel
theorem dX7_isSetting_230 : decode cX7_isSetting 230 = .ok (.lconst 0, 1) := by decide +kernel
theorem dX7_isSetting_231 : decode cX7_isSetting 231 = .ok (.ldc2_w 52, 3) := by decide +kernel
theorem dX7_isSetting_234 : decode cX7_isSetting 234 = .ok (.invokestatic 30, 3) := by decide +kernel
theorem dX7_isSetting_237 : decode cX7_isSetting 237 = .ok (.ifCond .eq 7, 3) := by decide +kernel
theorem dX7_isSetting_240 : decode cX7_isSetting 240 = .ok (.iconst 1, 1) := by decide +kernel
theorem dX7_isSetting_241 : decode cX7_isSetting 241 = .ok (.goto 4, 3) := by decide +kernel
theorem dX7_isSetting_244 : decode cX7_isSetting 244 = .ok (.iconst 0, 1) := by decide +kernel
theorem dX7_isSetting_245 : decode cX7_isSetting 245 = .ok (.ireturn, 1) := by decide +kernel
theorem dX7_setting_0 : decode cX7_setting 0 = .ok (.aload_n 0, 1) := by decide +kernel
theorem dX7_setting_1 : decode cX7_setting 1 = .ok (.getfield 7, 3) := by decide +kernel
theorem dX7_setting_4 : decode cX7_setting 4 = .ok (.bipush 20, 2) := by decide +kernel
theorem dX7_setting_6 : decode cX7_setting 6 = .ok (.iload_n 1, 1) := by decide +kernel
theorem dX7_setting_7 : decode cX7_setting 7 = .ok (.iadd, 1) := by decide +kernel
theorem dX7_setting_8 : decode cX7_setting 8 = .ok (.iaload, 1) := by decide +kernel
theorem dX7_setting_9 : decode cX7_setting 9 = .ok (.ireturn, 1) := by decide +kernel
theorem dX7_save_0 : decode cX7_save 0 = .ok (.aload_n 0, 1) := by decide +kernel
theorem dX7_save_1 : decode cX7_save 1 = .ok (.getfield 54, 3) := by decide +kernel
theorem dX7_save_4 : decode cX7_save 4 = .ok (.iconst 4, 1) := by decide +kernel
theorem dX7_save_5 : decode cX7_save 5 = .ok (.if_icmp .ne 44, 3) := by decide +kernel
theorem dX7_save_8 : decode cX7_save 8 = .ok (.iconst 0, 1) := by decide +kernel
theorem dX7_save_9 : decode cX7_save 9 = .ok (.istore_n 1, 1) := by decide +kernel
theorem dX7_save_10 : decode cX7_save 10 = .ok (.iload_n 1, 1) := by decide +kernel
theorem dX7_save_11 : decode cX7_save 11 = .ok (.sipush 510, 3) := by decide +kernel
theorem dX7_save_14 : decode cX7_save 14 = .ok (.if_icmp .ge 25, 3) := by decide +kernel
theorem dX7_save_17 : decode cX7_save 17 = .ok (.aload_n 0, 1) := by decide +kernel
theorem dX7_save_18 : decode cX7_save 18 = .ok (.getfield 13, 3) := by decide +kernel
theorem dX7_save_21 : decode cX7_save 21 = .ok (.iload_n 1, 1) := by decide +kernel
theorem dX7_save_22 : decode cX7_save 22 = .ok (.aload_n 0, 1) := by decide +kernel
theorem dX7_save_23 : decode cX7_save 23 = .ok (.getfield 13, 3) := by decide +kernel
theorem dX7_save_26 : decode cX7_save 26 = .ok (.iload_n 1, 1) := by decide +kernel
theorem dX7_save_27 : decode cX7_save 27 = .ok (.sipush 170, 3) := by decide +kernel
theorem dX7_save_30 : decode cX7_save 30 = .ok (.iadd, 1) := by decide +kernel
theorem dX7_save_31 : decode cX7_save 31 = .ok (.iaload, 1) := by decide +kernel
theorem dX7_save_32 : decode cX7_save 32 = .ok (.iastore, 1) := by decide +kernel
theorem dX7_save_33 : decode cX7_save 33 = .ok (.iinc 1 1, 3) := by decide +kernel
theorem dX7_save_36 : decode cX7_save 36 = .ok (.goto (-26), 3) := by decide +kernel
theorem dX7_save_39 : decode cX7_save 39 = .ok (.aload_n 0, 1) := by decide +kernel
theorem dX7_save_40 : decode cX7_save 40 = .ok (.dup, 1) := by decide +kernel
theorem dX7_save_41 : decode cX7_save 41 = .ok (.getfield 54, 3) := by decide +kernel
theorem dX7_save_44 : decode cX7_save 44 = .ok (.iconst 1, 1) := by decide +kernel
theorem dX7_save_45 : decode cX7_save 45 = .ok (.isub, 1) := by decide +kernel
theorem dX7_save_46 : decode cX7_save 46 = .ok (.putfield 54, 3) := by decide +kernel
theorem dX7_save_49 : decode cX7_save 49 = .ok (.iconst 0, 1) := by decide +kernel
theorem dX7_save_50 : decode cX7_save 50 = .ok (.istore_n 1, 1) := by decide +kernel
theorem dX7_save_51 : decode cX7_save 51 = .ok (.iload_n 1, 1) := by decide +kernel
theorem dX7_save_52 : decode cX7_save 52 = .ok (.sipush 170, 3) := by decide +kernel
theorem dX7_save_55 : decode cX7_save 55 = .ok (.if_icmp .ge 30, 3) := by decide +kernel
theorem dX7_save_58 : decode cX7_save 58 = .ok (.aload_n 0, 1) := by decide +kernel
theorem dX7_save_59 : decode cX7_save 59 = .ok (.getfield 13, 3) := by decide +kernel
theorem dX7_save_62 : decode cX7_save 62 = .ok (.sipush 170, 3) := by decide +kernel
theorem dX7_save_65 : decode cX7_save 65 = .ok (.aload_n 0, 1) := by decide +kernel
theorem dX7_save_66 : decode cX7_save 66 = .ok (.getfield 54, 3) := by decide +kernel
theorem dX7_save_69 : decode cX7_save 69 = .ok (.imul, 1) := by decide +kernel
theorem dX7_save_70 : decode cX7_save 70 = .ok (.iload_n 1, 1) := by decide +kernel
theorem dX7_save_71 : decode cX7_save 71 = .ok (.iadd, 1) := by decide +kernel
theorem dX7_save_72 : decode cX7_save 72 = .ok (.aload_n 0, 1) := by decide +kernel
theorem dX7_save_73 : decode cX7_save 73 = .ok (.getfield 7, 3) := by decide +kernel
theorem dX7_save_76 : decode cX7_save 76 = .ok (.iload_n 1, 1) := by decide +kernel
theorem dX7_save_77 : decode cX7_save 77 = .ok (.iaload, 1) := by decide +kernel
theorem dX7_save_78 : decode cX7_save 78 = .ok (.iastore, 1) := by decide +kernel
theorem dX7_save_79 : decode cX7_save 79 = .ok (.iinc 1 1, 3) := by decide +kernel
theorem dX7_save_82 : decode cX7_save 82 = .ok (.goto (-31), 3) := by decide +kernel
theorem dX7_save_85 : decode cX7_save 85 = .ok (.aload_n 0, 1) := by decide +kernel
theorem dX7_save_86 : decode cX7_save 86 = .ok (.dup, 1) := by decide +kernel
theorem dX7_save_87 : decode cX7_save 87 = .ok (.getfield 54, 3) := by decide +kernel
theorem dX7_save_90 : decode cX7_save 90 = .ok (.iconst 1, 1) := by decide +kernel
theorem dX7_save_91 : decode cX7_save 91 = .ok (.iadd, 1) := by decide +kernel
theorem dX7_save_92 : decode cX7_save 92 = .ok (.putfield 54, 3) := by decide +kernel
theorem dX7_save_95 : decode cX7_save 95 = .ok (.return_, 1) := by decide +kernel
theorem dX7_set_0 : decode cX7_set 0 = .ok (.iload_n 1, 1) := by decide +kernel
theorem dX7_set_1 : decode cX7_set 1 = .ok (.iload_n 2, 1) := by decide +kernel
theorem dX7_set_2 : decode cX7_set 2 = .ok (.invokestatic 58, 3) := by decide +kernel
theorem dX7_set_5 : decode cX7_set 5 = .ok (.ifCond .ne 6, 3) := by decide +kernel
theorem dX7_set_8 : decode cX7_set 8 = .ok (.ldc 62, 2) := by decide +kernel
theorem dX7_set_10 : decode cX7_set 10 = .ok (.ireturn, 1) := by decide +kernel
theorem dX7_set_11 : decode cX7_set 11 = .ok (.aload_n 0, 1) := by decide +kernel
theorem dX7_set_12 : decode cX7_set 12 = .ok (.invokevirtual 63, 3) := by decide +kernel
theorem dX7_set_15 : decode cX7_set 15 = .ok (.aload_n 0, 1) := by decide +kernel
theorem dX7_set_16 : decode cX7_set 16 = .ok (.iload_n 1, 1) := by decide +kernel
theorem dX7_set_17 : decode cX7_set 17 = .ok (.invokevirtual 66, 3) := by decide +kernel
theorem dX7_set_20 : decode cX7_set 20 = .ok (.istore_n 3, 1) := by decide +kernel
theorem dX7_set_21 : decode cX7_set 21 = .ok (.aload_n 0, 1) := by decide +kernel
theorem dX7_set_22 : decode cX7_set 22 = .ok (.getfield 7, 3) := by decide +kernel
theorem dX7_set_25 : decode cX7_set 25 = .ok (.bipush 20, 2) := by decide +kernel
theorem dX7_set_27 : decode cX7_set 27 = .ok (.iload_n 1, 1) := by decide +kernel
theorem dX7_set_28 : decode cX7_set 28 = .ok (.iadd, 1) := by decide +kernel
theorem dX7_set_29 : decode cX7_set 29 = .ok (.iload_n 2, 1) := by decide +kernel
theorem dX7_set_30 : decode cX7_set 30 = .ok (.iastore, 1) := by decide +kernel
theorem dX7_set_31 : decode cX7_set 31 = .ok (.iload_n 3, 1) := by decide +kernel
theorem dX7_set_32 : decode cX7_set 32 = .ok (.ireturn, 1) := by decide +kernel
theorem dX7_of_0 : decode cX7_of 0 = .ok (.aload_n 0, 1) := by decide +kernel
theorem dX7_of_1 : decode cX7_of 1 = .ok (.getfield 7, 3) := by decide +kernel
theorem dX7_of_4 : decode cX7_of 4 = .ok (.bipush 39, 2) := by decide +kernel
theorem dX7_of_6 : decode cX7_of 6 = .ok (.bipush 8, 2) := by decide +kernel
theorem dX7_of_8 : decode cX7_of 8 = .ok (.iload_n 1, 1) := by decide +kernel
theorem dX7_of_9 : decode cX7_of 9 = .ok (.imul, 1) := by decide +kernel
theorem dX7_of_10 : decode cX7_of 10 = .ok (.iadd, 1) := by decide +kernel
theorem dX7_of_11 : decode cX7_of 11 = .ok (.iload_n 2, 1) := by decide +kernel
theorem dX7_of_12 : decode cX7_of 12 = .ok (.iadd, 1) := by decide +kernel
theorem dX7_of_13 : decode cX7_of 13 = .ok (.iaload, 1) := by decide +kernel
theorem dX7_of_14 : decode cX7_of 14 = .ok (.ireturn, 1) := by decide +kernel
theorem dX7_put_0 : decode cX7_put 0 = .ok (.aload_n 0, 1) := by decide +kernel
theorem dX7_put_1 : decode cX7_put 1 = .ok (.getfield 7, 3) := by decide +kernel
theorem dX7_put_4 : decode cX7_put 4 = .ok (.bipush 39, 2) := by decide +kernel
theorem dX7_put_6 : decode cX7_put 6 = .ok (.bipush 8, 2) := by decide +kernel
theorem dX7_put_8 : decode cX7_put 8 = .ok (.iload_n 1, 1) := by decide +kernel
theorem dX7_put_9 : decode cX7_put 9 = .ok (.imul, 1) := by decide +kernel
theorem dX7_put_10 : decode cX7_put 10 = .ok (.iadd, 1) := by decide +kernel
theorem dX7_put_11 : decode cX7_put 11 = .ok (.iload_n 2, 1) := by decide +kernel
theorem dX7_put_12 : decode cX7_put 12 = .ok (.iadd, 1) := by decide +kernel
theorem dX7_put_13 : decode cX7_put 13 = .ok (.iload_n 3, 1) := by decide +kernel
theorem dX7_put_14 : decode cX7_put 14 = .ok (.iastore, 1) := by decide +kernel
theorem dX7_put_15 : decode cX7_put 15 = .ok (.return_, 1) := by decide +kernel
theorem dX7_isPump_0 : decode cX7_isPump 0 = .ok (.iload_n 1, 1) := by decide +kernel
theorem dX7_isPump_1 : decode cX7_isPump 1 = .ok (.i2l, 1) := by decide +kernel
theorem dX7_isPump_2 : decode cX7_isPump 2 = .ok (.lconst 0, 1) := by decide +kernel
theorem dX7_isPump_3 : decode cX7_isPump 3 = .ok (.aload_n 0, 1) := by decide +kernel
theorem dX7_isPump_4 : decode cX7_isPump 4 = .ok (.getfield 7, 3) := by decide +kernel
theorem dX7_isPump_7 : decode cX7_isPump 7 = .ok (.bipush 14, 2) := by decide +kernel
theorem dX7_isPump_9 : decode cX7_isPump 9 = .ok (.iaload, 1) := by decide +kernel
theorem dX7_isPump_10 : decode cX7_isPump 10 = .ok (.i2l, 1) := by decide +kernel
theorem dX7_isPump_11 : decode cX7_isPump 11 = .ok (.lconst 1, 1) := by decide +kernel
theorem dX7_isPump_12 : decode cX7_isPump 12 = .ok (.lsub, 1) := by decide +kernel
theorem dX7_isPump_13 : decode cX7_isPump 13 = .ok (.invokestatic 30, 3) := by decide +kernel
theorem dX7_isPump_16 : decode cX7_isPump 16 = .ok (.ireturn, 1) := by decide +kernel
theorem dX7_pump_0 : decode cX7_pump 0 = .ok (.iload_n 1, 1) := by decide +kernel
theorem dX7_pump_1 : decode cX7_pump 1 = .ok (.i2l, 1) := by decide +kernel
theorem dX7_pump_2 : decode cX7_pump 2 = .ok (.lconst 0, 1) := by decide +kernel
theorem dX7_pump_3 : decode cX7_pump 3 = .ok (.ldc2_w 69, 3) := by decide +kernel
theorem dX7_pump_6 : decode cX7_pump 6 = .ok (.invokestatic 30, 3) := by decide +kernel
theorem dX7_pump_9 : decode cX7_pump 9 = .ok (.ifCond .eq 29, 3) := by decide +kernel
theorem dX7_pump_12 : decode cX7_pump 12 = .ok (.iload_n 2, 1) := by decide +kernel
theorem dX7_pump_13 : decode cX7_pump 13 = .ok (.i2l, 1) := by decide +kernel
theorem dX7_pump_14 : decode cX7_pump 14 = .ok (.ldc2_w 26, 3) := by decide +kernel
theorem dX7_pump_17 : decode cX7_pump 17 = .ok (.ldc2_w 71, 3) := by decide +kernel
theorem dX7_pump_20 : decode cX7_pump 20 = .ok (.invokestatic 30, 3) := by decide +kernel
theorem dX7_pump_23 : decode cX7_pump 23 = .ok (.ifCond .eq 15, 3) := by decide +kernel
theorem dX7_pump_26 : decode cX7_pump 26 = .ok (.iload_n 3, 1) := by decide +kernel
theorem dX7_pump_27 : decode cX7_pump 27 = .ok (.i2l, 1) := by decide +kernel
theorem dX7_pump_28 : decode cX7_pump 28 = .ok (.lconst 1, 1) := by decide +kernel
theorem dX7_pump_29 : decode cX7_pump 29 = .ok (.ldc2_w 40, 3) := by decide +kernel
theorem dX7_pump_32 : decode cX7_pump 32 = .ok (.invokestatic 30, 3) := by decide +kernel
theorem dX7_pump_35 : decode cX7_pump 35 = .ok (.ifCond .ne 6, 3) := by decide +kernel
theorem dX7_pump_38 : decode cX7_pump 38 = .ok (.ldc 62, 2) := by decide +kernel
theorem dX7_pump_40 : decode cX7_pump 40 = .ok (.ireturn, 1) := by decide +kernel
theorem dX7_pump_41 : decode cX7_pump 41 = .ok (.aload_n 0, 1) := by decide +kernel
theorem dX7_pump_42 : decode cX7_pump 42 = .ok (.getfield 7, 3) := by decide +kernel
theorem dX7_pump_45 : decode cX7_pump 45 = .ok (.bipush 14, 2) := by decide +kernel
theorem dX7_pump_47 : decode cX7_pump 47 = .ok (.iaload, 1) := by decide +kernel
theorem dX7_pump_48 : decode cX7_pump 48 = .ok (.bipush 6, 2) := by decide +kernel
theorem dX7_pump_50 : decode cX7_pump 50 = .ok (.if_icmp .ne 6, 3) := by decide +kernel
theorem dX7_pump_53 : decode cX7_pump 53 = .ok (.ldc 73, 2) := by decide +kernel
theorem dX7_pump_55 : decode cX7_pump 55 = .ok (.ireturn, 1) := by decide +kernel
theorem dX7_pump_56 : decode cX7_pump 56 = .ok (.aload_n 0, 1) := by decide +kernel
theorem dX7_pump_57 : decode cX7_pump 57 = .ok (.invokevirtual 63, 3) := by decide +kernel
theorem dX7_pump_60 : decode cX7_pump 60 = .ok (.aload_n 0, 1) := by decide +kernel
theorem dX7_pump_61 : decode cX7_pump 61 = .ok (.getfield 7, 3) := by decide +kernel
theorem dX7_pump_64 : decode cX7_pump 64 = .ok (.bipush 14, 2) := by decide +kernel
theorem dX7_pump_66 : decode cX7_pump 66 = .ok (.iaload, 1) := by decide +kernel
theorem dX7_pump_67 : decode cX7_pump 67 = .ok (.istore 4, 2) := by decide +kernel
theorem dX7_pump_69 : decode cX7_pump 69 = .ok (.iconst 0, 1) := by decide +kernel
theorem dX7_pump_70 : decode cX7_pump 70 = .ok (.istore 5, 2) := by decide +kernel
theorem dX7_pump_72 : decode cX7_pump 72 = .ok (.iload 5, 2) := by decide +kernel
theorem dX7_pump_74 : decode cX7_pump 74 = .ok (.bipush 8, 2) := by decide +kernel
theorem dX7_pump_76 : decode cX7_pump 76 = .ok (.if_icmp .ge 18, 3) := by decide +kernel
theorem dX7_pump_79 : decode cX7_pump 79 = .ok (.aload_n 0, 1) := by decide +kernel
theorem dX7_pump_80 : decode cX7_pump 80 = .ok (.iload 4, 2) := by decide +kernel
theorem dX7_pump_82 : decode cX7_pump 82 = .ok (.iload 5, 2) := by decide +kernel
theorem dX7_pump_84 : decode cX7_pump 84 = .ok (.iconst 0, 1) := by decide +kernel
theorem dX7_pump_85 : decode cX7_pump 85 = .ok (.invokevirtual 74, 3) := by decide +kernel
theorem dX7_pump_88 : decode cX7_pump 88 = .ok (.iinc 5 1, 3) := by decide +kernel
theorem dX7_pump_91 : decode cX7_pump 91 = .ok (.goto (-19), 3) := by decide +kernel
theorem dX7_pump_94 : decode cX7_pump 94 = .ok (.aload_n 0, 1) := by decide +kernel
theorem dX7_pump_95 : decode cX7_pump 95 = .ok (.iload 4, 2) := by decide +kernel
theorem dX7_pump_97 : decode cX7_pump 97 = .ok (.iconst 0, 1) := by decide +kernel
theorem dX7_pump_98 : decode cX7_pump 98 = .ok (.iload_n 1, 1) := by decide +kernel
theorem dX7_pump_99 : decode cX7_pump 99 = .ok (.invokevirtual 74, 3) := by decide +kernel
theorem dX7_pump_102 : decode cX7_pump 102 = .ok (.aload_n 0, 1) := by decide +kernel
theorem dX7_pump_103 : decode cX7_pump 103 = .ok (.iload 4, 2) := by decide +kernel
theorem dX7_pump_105 : decode cX7_pump 105 = .ok (.iconst 1, 1) := by decide +kernel
theorem dX7_pump_106 : decode cX7_pump 106 = .ok (.iload_n 2, 1) := by decide +kernel
theorem dX7_pump_107 : decode cX7_pump 107 = .ok (.invokevirtual 74, 3) := by decide +kernel
theorem dX7_pump_110 : decode cX7_pump 110 = .ok (.aload_n 0, 1) := by decide +kernel
theorem dX7_pump_111 : decode cX7_pump 111 = .ok (.iload 4, 2) := by decide +kernel
theorem dX7_pump_113 : decode cX7_pump 113 = .ok (.iconst 2, 1) := by decide +kernel
theorem dX7_pump_114 : decode cX7_pump 114 = .ok (.iload_n 3, 1) := by decide +kernel
theorem dX7_pump_115 : decode cX7_pump 115 = .ok (.invokevirtual 74, 3) := by decide +kernel
theorem dX7_pump_118 : decode cX7_pump 118 = .ok (.aload_n 0, 1) := by decide +kernel
theorem dX7_pump_119 : decode cX7_pump 119 = .ok (.iload 4, 2) := by decide +kernel
theorem dX7_pump_121 : decode cX7_pump 121 = .ok (.iconst 3, 1) := by decide +kernel
theorem dX7_pump_122 : decode cX7_pump 122 = .ok (.iconst 1, 1) := by decide +kernel
theorem dX7_pump_123 : decode cX7_pump 123 = .ok (.invokevirtual 74, 3) := by decide +kernel
theorem dX7_pump_126 : decode cX7_pump 126 = .ok (.aload_n 0, 1) := by decide +kernel
theorem dX7_pump_127 : decode cX7_pump 127 = .ok (.getfield 7, 3) := by decide +kernel
theorem dX7_pump_130 : decode cX7_pump 130 = .ok (.bipush 14, 2) := by decide +kernel
theorem dX7_pump_132 : decode cX7_pump 132 = .ok (.dup2, 1) := by decide +kernel
theorem dX7_pump_133 : decode cX7_pump 133 = .ok (.iaload, 1) := by decide +kernel
theorem dX7_pump_134 : decode cX7_pump 134 = .ok (.iconst 1, 1) := by decide +kernel
theorem dX7_pump_135 : decode cX7_pump 135 = .ok (.iadd, 1) := by decide +kernel
theorem dX7_pump_136 : decode cX7_pump 136 = .ok (.iastore, 1) := by decide +kernel
theorem dX7_pump_137 : decode cX7_pump 137 = .ok (.iload 4, 2) := by decide +kernel
theorem dX7_pump_139 : decode cX7_pump 139 = .ok (.ireturn, 1) := by decide +kernel
theorem dX7_runs_0 : decode cX7_runs 0 = .ok (.aload_n 0, 1) := by decide +kernel
theorem dX7_runs_1 : decode cX7_runs 1 = .ok (.iload_n 1, 1) := by decide +kernel
theorem dX7_runs_2 : decode cX7_runs 2 = .ok (.iconst 4, 1) := by decide +kernel
theorem dX7_runs_3 : decode cX7_runs 3 = .ok (.invokevirtual 78, 3) := by decide +kernel
theorem dX7_runs_6 : decode cX7_runs 6 = .ok (.ifCond .le 7, 3) := by decide +kernel
theorem dX7_runs_9 : decode cX7_runs 9 = .ok (.iconst 1, 1) := by decide +kernel
theorem dX7_runs_10 : decode cX7_runs 10 = .ok (.goto 4, 3) := by decide +kernel
theorem dX7_runs_13 : decode cX7_runs 13 = .ok (.iconst 0, 1) := by decide +kernel
theorem dX7_runs_14 : decode cX7_runs 14 = .ok (.ireturn, 1) := by decide +kernel
theorem dX7_running_0 : decode cX7_running 0 = .ok (.iconst 0, 1) := by decide +kernel
theorem dX7_running_1 : decode cX7_running 1 = .ok (.istore_n 1, 1) := by decide +kernel
theorem dX7_running_2 : decode cX7_running 2 = .ok (.iconst 0, 1) := by decide +kernel
theorem dX7_running_3 : decode cX7_running 3 = .ok (.istore_n 2, 1) := by decide +kernel
theorem dX7_running_4 : decode cX7_running 4 = .ok (.iload_n 2, 1) := by decide +kernel
theorem dX7_running_5 : decode cX7_running 5 = .ok (.aload_n 0, 1) := by decide +kernel
theorem dX7_running_6 : decode cX7_running 6 = .ok (.getfield 7, 3) := by decide +kernel
theorem dX7_running_9 : decode cX7_running 9 = .ok (.bipush 14, 2) := by decide +kernel
theorem dX7_running_11 : decode cX7_running 11 = .ok (.iaload, 1) := by decide +kernel
theorem dX7_running_12 : decode cX7_running 12 = .ok (.if_icmp .ge 25, 3) := by decide +kernel
theorem dX7_running_15 : decode cX7_running 15 = .ok (.iload_n 1, 1) := by decide +kernel
theorem dX7_running_16 : decode cX7_running 16 = .ok (.aload_n 0, 1) := by decide +kernel
theorem dX7_running_17 : decode cX7_running 17 = .ok (.iload_n 2, 1) := by decide +kernel
theorem dX7_running_18 : decode cX7_running 18 = .ok (.invokevirtual 82, 3) := by decide +kernel
theorem dX7_running_21 : decode cX7_running 21 = .ok (.ifCond .eq 7, 3) := by decide +kernel
theorem dX7_running_24 : decode cX7_running 24 = .ok (.iconst 1, 1) := by decide +kernel
theorem dX7_running_25 : decode cX7_running 25 = .ok (.goto 4, 3) := by decide +kernel
theorem dX7_running_28 : decode cX7_running 28 = .ok (.iconst 0, 1) := by decide +kernel
theorem dX7_running_29 : decode cX7_running 29 = .ok (.iadd, 1) := by decide +kernel
theorem dX7_running_30 : decode cX7_running 30 = .ok (.istore_n 1, 1) := by decide +kernel
theorem dX7_running_31 : decode cX7_running 31 = .ok (.iinc 2 1, 3) := by decide +kernel
theorem dX7_running_34 : decode cX7_running 34 = .ok (.goto (-30), 3) := by decide +kernel
theorem dX7_running_37 : decode cX7_running 37 = .ok (.iload_n 1, 1) := by decide +kernel
theorem dX7_running_38 : decode cX7_running 38 = .ok (.ireturn, 1) := by decide +kernel
theorem dX7_isReady_0 : decode cX7_isReady 0 = .ok (.aload_n 0, 1) := by decide +kernel
theorem dX7_isReady_1 : decode cX7_isReady 1 = .ok (.iload_n 1, 1) := by decide +kernel
theorem dX7_isReady_2 : decode cX7_isReady 2 = .ok (.iconst 3, 1) := by decide +kernel
theorem dX7_isReady_3 : decode cX7_isReady 3 = .ok (.invokevirtual 78, 3) := by decide +kernel
theorem dX7_isReady_6 : decode cX7_isReady 6 = .ok (.iconst 1, 1) := by decide +kernel
theorem dX7_isReady_7 : decode cX7_isReady 7 = .ok (.if_icmp .ne 15, 3) := by decide +kernel
theorem dX7_isReady_10 : decode cX7_isReady 10 = .ok (.aload_n 0, 1) := by decide +kernel
theorem dX7_isReady_11 : decode cX7_isReady 11 = .ok (.iload_n 1, 1) := by decide +kernel
theorem dX7_isReady_12 : decode cX7_isReady 12 = .ok (.invokevirtual 82, 3) := by decide +kernel
theorem dX7_isReady_15 : decode cX7_isReady 15 = .ok (.ifCond .ne 7, 3) := by decide +kernel
theorem dX7_isReady_18 : decode cX7_isReady 18 = .ok (.iconst 1, 1) := by decide +kernel
theorem dX7_isReady_19 : decode cX7_isReady 19 = .ok (.goto 4, 3) := by decide +kernel
theorem dX7_isReady_22 : decode cX7_isReady 22 = .ok (.iconst 0, 1) := by decide +kernel
theorem dX7_isReady_23 : decode cX7_isReady 23 = .ok (.ireturn, 1) := by decide +kernel
theorem dX7_root_0 : decode cX7_root 0 = .ok (.lconst 0, 1) := by decide +kernel
theorem dX7_root_1 : decode cX7_root 1 = .ok (.lstore_n 2, 1) := by decide +kernel
theorem dX7_root_2 : decode cX7_root 2 = .ok (.lload_n 2, 1) := by decide +kernel
theorem dX7_root_3 : decode cX7_root 3 = .ok (.lconst 1, 1) := by decide +kernel
theorem dX7_root_4 : decode cX7_root 4 = .ok (.ladd, 1) := by decide +kernel
theorem dX7_root_5 : decode cX7_root 5 = .ok (.lload_n 2, 1) := by decide +kernel
theorem dX7_root_6 : decode cX7_root 6 = .ok (.lconst 1, 1) := by decide +kernel
theorem dX7_root_7 : decode cX7_root 7 = .ok (.ladd, 1) := by decide +kernel
theorem dX7_root_8 : decode cX7_root 8 = .ok (.lmul, 1) := by decide +kernel
theorem dX7_root_9 : decode cX7_root 9 = .ok (.lload_n 0, 1) := by decide +kernel
theorem dX7_root_10 : decode cX7_root 10 = .ok (.lcmp, 1) := by decide +kernel
theorem dX7_root_11 : decode cX7_root 11 = .ok (.ifCond .gt 10, 3) := by decide +kernel
theorem dX7_root_14 : decode cX7_root 14 = .ok (.lload_n 2, 1) := by decide +kernel
theorem dX7_root_15 : decode cX7_root 15 = .ok (.lconst 1, 1) := by decide +kernel
theorem dX7_root_16 : decode cX7_root 16 = .ok (.ladd, 1) := by decide +kernel
theorem dX7_root_17 : decode cX7_root 17 = .ok (.lstore_n 2, 1) := by decide +kernel
theorem dX7_root_18 : decode cX7_root 18 = .ok (.goto (-16), 3) := by decide +kernel
theorem dX7_root_21 : decode cX7_root 21 = .ok (.lload_n 2, 1) := by decide +kernel
theorem dX7_root_22 : decode cX7_root 22 = .ok (.l2i, 1) := by decide +kernel
theorem dX7_root_23 : decode cX7_root 23 = .ok (.ireturn, 1) := by decide +kernel
theorem dX7_flow_0 : decode cX7_flow 0 = .ok (.aload_n 0, 1) := by decide +kernel
theorem dX7_flow_1 : decode cX7_flow 1 = .ok (.iload_n 1, 1) := by decide +kernel
theorem dX7_flow_2 : decode cX7_flow 2 = .ok (.iconst 1, 1) := by decide +kernel
theorem dX7_flow_3 : decode cX7_flow 3 = .ok (.invokevirtual 78, 3) := by decide +kernel
theorem dX7_flow_6 : decode cX7_flow 6 = .ok (.i2l, 1) := by decide +kernel
theorem dX7_flow_7 : decode cX7_flow 7 = .ok (.iload_n 2, 1) := by decide +kernel
theorem dX7_flow_8 : decode cX7_flow 8 = .ok (.i2l, 1) := by decide +kernel
theorem dX7_flow_9 : decode cX7_flow 9 = .ok (.lmul, 1) := by decide +kernel
theorem dX7_flow_10 : decode cX7_flow 10 = .ok (.iload_n 2, 1) := by decide +kernel
theorem dX7_flow_11 : decode cX7_flow 11 = .ok (.i2l, 1) := by decide +kernel
theorem dX7_flow_12 : decode cX7_flow 12 = .ok (.lmul, 1) := by decide +kernel
theorem dX7_flow_13 : decode cX7_flow 13 = .ok (.ldc2_w 86, 3) := by decide +kernel
theorem dX7_flow_16 : decode cX7_flow 16 = .ok (.ldiv, 1) := by decide +kernel
theorem dX7_flow_17 : decode cX7_flow 17 = .ok (.lstore 4, 2) := by decide +kernel
theorem dX7_flow_19 : decode cX7_flow 19 = .ok (.lload 4, 2) := by decide +kernel
theorem dX7_flow_21 : decode cX7_flow 21 = .ok (.iload_n 3, 1) := by decide +kernel
theorem dX7_flow_22 : decode cX7_flow 22 = .ok (.i2l, 1) := by decide +kernel
theorem dX7_flow_23 : decode cX7_flow 23 = .ok (.lcmp, 1) := by decide +kernel
theorem dX7_flow_24 : decode cX7_flow 24 = .ok (.ifCond .gt 7, 3) := by decide +kernel
theorem dX7_flow_27 : decode cX7_flow 27 = .ok (.iconst 0, 1) := by decide +kernel
theorem dX7_flow_28 : decode cX7_flow 28 = .ok (.goto 23, 3) := by decide +kernel
theorem dX7_flow_31 : decode cX7_flow 31 = .ok (.lload 4, 2) := by decide +kernel
theorem dX7_flow_33 : decode cX7_flow 33 = .ok (.iload_n 3, 1) := by decide +kernel
theorem dX7_flow_34 : decode cX7_flow 34 = .ok (.i2l, 1) := by decide +kernel
theorem dX7_flow_35 : decode cX7_flow 35 = .ok (.lsub, 1) := by decide +kernel
theorem dX7_flow_36 : decode cX7_flow 36 = .ok (.ldc2_w 40, 3) := by decide +kernel
theorem dX7_flow_39 : decode cX7_flow 39 = .ok (.lmul, 1) := by decide +kernel
theorem dX7_flow_40 : decode cX7_flow 40 = .ok (.aload_n 0, 1) := by decide +kernel
theorem dX7_flow_41 : decode cX7_flow 41 = .ok (.iload_n 1, 1) := by decide +kernel
theorem dX7_flow_42 : decode cX7_flow 42 = .ok (.iconst 2, 1) := by decide +kernel
theorem dX7_flow_43 : decode cX7_flow 43 = .ok (.invokevirtual 78, 3) := by decide +kernel
theorem dX7_flow_46 : decode cX7_flow 46 = .ok (.i2l, 1) := by decide +kernel
theorem dX7_flow_47 : decode cX7_flow 47 = .ok (.ldiv, 1) := by decide +kernel
theorem dX7_flow_48 : decode cX7_flow 48 = .ok (.invokestatic 88, 3) := by decide +kernel
theorem dX7_flow_51 : decode cX7_flow 51 = .ok (.ireturn, 1) := by decide +kernel
theorem dX7_isAhead_0 : decode cX7_isAhead 0 = .ok (.aload_n 0, 1) := by decide +kernel
theorem dX7_isAhead_1 : decode cX7_isAhead 1 = .ok (.iload_n 1, 1) := by decide +kernel
theorem dX7_isAhead_2 : decode cX7_isAhead 2 = .ok (.iconst 0, 1) := by decide +kernel
theorem dX7_isAhead_3 : decode cX7_isAhead 3 = .ok (.invokevirtual 78, 3) := by decide +kernel
theorem dX7_isAhead_6 : decode cX7_isAhead 6 = .ok (.iconst 2, 1) := by decide +kernel
theorem dX7_isAhead_7 : decode cX7_isAhead 7 = .ok (.if_icmp .ne 7, 3) := by decide +kernel
theorem dX7_isAhead_10 : decode cX7_isAhead 10 = .ok (.iconst 1, 1) := by decide +kernel
theorem dX7_isAhead_11 : decode cX7_isAhead 11 = .ok (.goto 4, 3) := by decide +kernel
theorem dX7_isAhead_14 : decode cX7_isAhead 14 = .ok (.iconst 0, 1) := by decide +kernel
theorem dX7_isAhead_15 : decode cX7_isAhead 15 = .ok (.istore_n 3, 1) := by decide +kernel
theorem dX7_isAhead_16 : decode cX7_isAhead 16 = .ok (.aload_n 0, 1) := by decide +kernel
theorem dX7_isAhead_17 : decode cX7_isAhead 17 = .ok (.iload_n 2, 1) := by decide +kernel
theorem dX7_isAhead_18 : decode cX7_isAhead 18 = .ok (.iconst 0, 1) := by decide +kernel
theorem dX7_isAhead_19 : decode cX7_isAhead 19 = .ok (.invokevirtual 78, 3) := by decide +kernel
theorem dX7_isAhead_22 : decode cX7_isAhead 22 = .ok (.iconst 2, 1) := by decide +kernel
theorem dX7_isAhead_23 : decode cX7_isAhead 23 = .ok (.if_icmp .ne 7, 3) := by decide +kernel
theorem dX7_isAhead_26 : decode cX7_isAhead 26 = .ok (.iconst 1, 1) := by decide +kernel
theorem dX7_isAhead_27 : decode cX7_isAhead 27 = .ok (.goto 4, 3) := by decide +kernel
theorem dX7_isAhead_30 : decode cX7_isAhead 30 = .ok (.iconst 0, 1) := by decide +kernel
theorem dX7_isAhead_31 : decode cX7_isAhead 31 = .ok (.istore 4, 2) := by decide +kernel
theorem dX7_isAhead_33 : decode cX7_isAhead 33 = .ok (.iload_n 3, 1) := by decide +kernel
theorem dX7_isAhead_34 : decode cX7_isAhead 34 = .ok (.iload 4, 2) := by decide +kernel
theorem dX7_isAhead_36 : decode cX7_isAhead 36 = .ok (.if_icmp .eq 25, 3) := by decide +kernel
theorem dX7_isAhead_39 : decode cX7_isAhead 39 = .ok (.iload_n 3, 1) := by decide +kernel
theorem dX7_isAhead_40 : decode cX7_isAhead 40 = .ok (.aload_n 0, 1) := by decide +kernel
theorem dX7_isAhead_41 : decode cX7_isAhead 41 = .ok (.invokevirtual 92, 3) := by decide +kernel
theorem dX7_isAhead_44 : decode cX7_isAhead 44 = .ok (.ifCond .ne 7, 3) := by decide +kernel
theorem dX7_isAhead_47 : decode cX7_isAhead 47 = .ok (.iconst 1, 1) := by decide +kernel
theorem dX7_isAhead_48 : decode cX7_isAhead 48 = .ok (.goto 4, 3) := by decide +kernel
theorem dX7_isAhead_51 : decode cX7_isAhead 51 = .ok (.iconst 0, 1) := by decide +kernel
theorem dX7_isAhead_52 : decode cX7_isAhead 52 = .ok (.if_icmp .ne 7, 3) := by decide +kernel
theorem dX7_isAhead_55 : decode cX7_isAhead 55 = .ok (.iconst 1, 1) := by decide +kernel
theorem dX7_isAhead_56 : decode cX7_isAhead 56 = .ok (.goto 4, 3) := by decide +kernel
theorem dX7_isAhead_59 : decode cX7_isAhead 59 = .ok (.iconst 0, 1) := by decide +kernel
theorem dX7_isAhead_60 : decode cX7_isAhead 60 = .ok (.ireturn, 1) := by decide +kernel
theorem dX7_isAhead_61 : decode cX7_isAhead 61 = .ok (.aload_n 0, 1) := by decide +kernel
theorem dX7_isAhead_62 : decode cX7_isAhead 62 = .ok (.iload_n 1, 1) := by decide +kernel
theorem dX7_isAhead_63 : decode cX7_isAhead 63 = .ok (.iconst 5, 1) := by decide +kernel
theorem dX7_isAhead_64 : decode cX7_isAhead 64 = .ok (.invokevirtual 78, 3) := by decide +kernel
theorem dX7_isAhead_67 : decode cX7_isAhead 67 = .ok (.aload_n 0, 1) := by decide +kernel
theorem dX7_isAhead_68 : decode cX7_isAhead 68 = .ok (.iload_n 2, 1) := by decide +kernel
theorem dX7_isAhead_69 : decode cX7_isAhead 69 = .ok (.iconst 5, 1) := by decide +kernel
theorem dX7_isAhead_70 : decode cX7_isAhead 70 = .ok (.invokevirtual 78, 3) := by decide +kernel
theorem dX7_isAhead_73 : decode cX7_isAhead 73 = .ok (.if_icmp .lt 23, 3) := by decide +kernel
theorem dX7_isAhead_76 : decode cX7_isAhead 76 = .ok (.aload_n 0, 1) := by decide +kernel
theorem dX7_isAhead_77 : decode cX7_isAhead 77 = .ok (.iload_n 1, 1) := by decide +kernel
theorem dX7_isAhead_78 : decode cX7_isAhead 78 = .ok (.iconst 5, 1) := by decide +kernel
theorem dX7_isAhead_79 : decode cX7_isAhead 79 = .ok (.invokevirtual 78, 3) := by decide +kernel
theorem dX7_isAhead_82 : decode cX7_isAhead 82 = .ok (.aload_n 0, 1) := by decide +kernel
theorem dX7_isAhead_83 : decode cX7_isAhead 83 = .ok (.iload_n 2, 1) := by decide +kernel
theorem dX7_isAhead_84 : decode cX7_isAhead 84 = .ok (.iconst 5, 1) := by decide +kernel
theorem dX7_isAhead_85 : decode cX7_isAhead 85 = .ok (.invokevirtual 78, 3) := by decide +kernel
theorem dX7_isAhead_88 : decode cX7_isAhead 88 = .ok (.if_icmp .ne 12, 3) := by decide +kernel
theorem dX7_isAhead_91 : decode cX7_isAhead 91 = .ok (.iload_n 1, 1) := by decide +kernel
theorem dX7_isAhead_92 : decode cX7_isAhead 92 = .ok (.iload_n 2, 1) := by decide +kernel
theorem dX7_isAhead_93 : decode cX7_isAhead 93 = .ok (.if_icmp .ge 7, 3) := by decide +kernel
theorem dX7_isAhead_96 : decode cX7_isAhead 96 = .ok (.iconst 1, 1) := by decide +kernel
theorem dX7_isAhead_97 : decode cX7_isAhead 97 = .ok (.goto 4, 3) := by decide +kernel
theorem dX7_isAhead_100 : decode cX7_isAhead 100 = .ok (.iconst 0, 1) := by decide +kernel
theorem dX7_isAhead_101 : decode cX7_isAhead 101 = .ok (.ireturn, 1) := by decide +kernel
theorem dX7_ready_0 : decode cX7_ready 0 = .ok (.iconst 0, 1) := by decide +kernel
theorem dX7_ready_1 : decode cX7_ready 1 = .ok (.istore_n 2, 1) := by decide +kernel
theorem dX7_ready_2 : decode cX7_ready 2 = .ok (.iload_n 2, 1) := by decide +kernel
theorem dX7_ready_3 : decode cX7_ready 3 = .ok (.aload_n 0, 1) := by decide +kernel
theorem dX7_ready_4 : decode cX7_ready 4 = .ok (.getfield 7, 3) := by decide +kernel
theorem dX7_ready_7 : decode cX7_ready 7 = .ok (.bipush 14, 2) := by decide +kernel
theorem dX7_ready_9 : decode cX7_ready 9 = .ok (.iaload, 1) := by decide +kernel
theorem dX7_ready_10 : decode cX7_ready 10 = .ok (.if_icmp .ge 80, 3) := by decide +kernel
theorem dX7_ready_13 : decode cX7_ready 13 = .ok (.iconst 0, 1) := by decide +kernel
theorem dX7_ready_14 : decode cX7_ready 14 = .ok (.istore_n 3, 1) := by decide +kernel
theorem dX7_ready_15 : decode cX7_ready 15 = .ok (.iconst 0, 1) := by decide +kernel
theorem dX7_ready_16 : decode cX7_ready 16 = .ok (.istore 4, 2) := by decide +kernel
theorem dX7_ready_18 : decode cX7_ready 18 = .ok (.iload 4, 2) := by decide +kernel
theorem dX7_ready_20 : decode cX7_ready 20 = .ok (.aload_n 0, 1) := by decide +kernel
theorem dX7_ready_21 : decode cX7_ready 21 = .ok (.getfield 7, 3) := by decide +kernel
theorem dX7_ready_24 : decode cX7_ready 24 = .ok (.bipush 14, 2) := by decide +kernel
theorem dX7_ready_26 : decode cX7_ready 26 = .ok (.iaload, 1) := by decide +kernel
theorem dX7_ready_27 : decode cX7_ready 27 = .ok (.if_icmp .ge 42, 3) := by decide +kernel
theorem dX7_ready_30 : decode cX7_ready 30 = .ok (.iload_n 3, 1) := by decide +kernel
theorem dX7_ready_31 : decode cX7_ready 31 = .ok (.iload 4, 2) := by decide +kernel
theorem dX7_ready_33 : decode cX7_ready 33 = .ok (.iload_n 2, 1) := by decide +kernel
theorem dX7_ready_34 : decode cX7_ready 34 = .ok (.if_icmp .eq 26, 3) := by decide +kernel
theorem dX7_ready_37 : decode cX7_ready 37 = .ok (.aload_n 0, 1) := by decide +kernel
theorem dX7_ready_38 : decode cX7_ready 38 = .ok (.iload 4, 2) := by decide +kernel
theorem dX7_ready_40 : decode cX7_ready 40 = .ok (.invokevirtual 96, 3) := by decide +kernel
theorem dX7_ready_43 : decode cX7_ready 43 = .ok (.ifCond .eq 17, 3) := by decide +kernel
theorem dX7_ready_46 : decode cX7_ready 46 = .ok (.aload_n 0, 1) := by decide +kernel
theorem dX7_ready_47 : decode cX7_ready 47 = .ok (.iload 4, 2) := by decide +kernel
theorem dX7_ready_49 : decode cX7_ready 49 = .ok (.iload_n 2, 1) := by decide +kernel
theorem dX7_ready_50 : decode cX7_ready 50 = .ok (.invokevirtual 99, 3) := by decide +kernel
theorem dX7_ready_53 : decode cX7_ready 53 = .ok (.ifCond .eq 7, 3) := by decide +kernel
theorem dX7_ready_56 : decode cX7_ready 56 = .ok (.iconst 1, 1) := by decide +kernel
theorem dX7_ready_57 : decode cX7_ready 57 = .ok (.goto 4, 3) := by decide +kernel
theorem dX7_ready_60 : decode cX7_ready 60 = .ok (.iconst 0, 1) := by decide +kernel
theorem dX7_ready_61 : decode cX7_ready 61 = .ok (.iadd, 1) := by decide +kernel
theorem dX7_ready_62 : decode cX7_ready 62 = .ok (.istore_n 3, 1) := by decide +kernel
theorem dX7_ready_63 : decode cX7_ready 63 = .ok (.iinc 4 1, 3) := by decide +kernel
theorem dX7_ready_66 : decode cX7_ready 66 = .ok (.goto (-48), 3) := by decide +kernel
theorem dX7_ready_69 : decode cX7_ready 69 = .ok (.aload_n 0, 1) := by decide +kernel
theorem dX7_ready_70 : decode cX7_ready 70 = .ok (.iload_n 2, 1) := by decide +kernel
theorem dX7_ready_71 : decode cX7_ready 71 = .ok (.invokevirtual 96, 3) := by decide +kernel
theorem dX7_ready_74 : decode cX7_ready 74 = .ok (.ifCond .eq 10, 3) := by decide +kernel
theorem dX7_ready_77 : decode cX7_ready 77 = .ok (.iload_n 3, 1) := by decide +kernel
theorem dX7_ready_78 : decode cX7_ready 78 = .ok (.iload_n 1, 1) := by decide +kernel
theorem dX7_ready_79 : decode cX7_ready 79 = .ok (.if_icmp .ne 5, 3) := by decide +kernel
theorem dX7_ready_82 : decode cX7_ready 82 = .ok (.iload_n 2, 1) := by decide +kernel
theorem dX7_ready_83 : decode cX7_ready 83 = .ok (.ireturn, 1) := by decide +kernel
theorem dX7_ready_84 : decode cX7_ready 84 = .ok (.iinc 2 1, 3) := by decide +kernel
theorem dX7_ready_87 : decode cX7_ready 87 = .ok (.goto (-85), 3) := by decide +kernel
theorem dX7_ready_90 : decode cX7_ready 90 = .ok (.iconst (-1), 1) := by decide +kernel
theorem dX7_ready_91 : decode cX7_ready 91 = .ok (.ireturn, 1) := by decide +kernel
theorem dX7_event_0 : decode cX7_event 0 = .ok (.bipush 35, 2) := by decide +kernel
theorem dX7_event_2 : decode cX7_event 2 = .ok (.istore_n 3, 1) := by decide +kernel
theorem dX7_event_3 : decode cX7_event 3 = .ok (.iload_n 3, 1) := by decide +kernel
theorem dX7_event_4 : decode cX7_event 4 = .ok (.iconst 3, 1) := by decide +kernel
theorem dX7_event_5 : decode cX7_event 5 = .ok (.if_icmp .lt 31, 3) := by decide +kernel
theorem dX7_event_8 : decode cX7_event 8 = .ok (.aload_n 0, 1) := by decide +kernel
theorem dX7_event_9 : decode cX7_event 9 = .ok (.getfield 7, 3) := by decide +kernel
theorem dX7_event_12 : decode cX7_event 12 = .ok (.sipush 134, 3) := by decide +kernel
theorem dX7_event_15 : decode cX7_event 15 = .ok (.iload_n 3, 1) := by decide +kernel
theorem dX7_event_16 : decode cX7_event 16 = .ok (.iadd, 1) := by decide +kernel
theorem dX7_event_17 : decode cX7_event 17 = .ok (.aload_n 0, 1) := by decide +kernel
theorem dX7_event_18 : decode cX7_event 18 = .ok (.getfield 7, 3) := by decide +kernel
theorem dX7_event_21 : decode cX7_event 21 = .ok (.sipush 134, 3) := by decide +kernel
theorem dX7_event_24 : decode cX7_event 24 = .ok (.iload_n 3, 1) := by decide +kernel
theorem dX7_event_25 : decode cX7_event 25 = .ok (.iadd, 1) := by decide +kernel
theorem dX7_event_26 : decode cX7_event 26 = .ok (.iconst 3, 1) := by decide +kernel
theorem dX7_event_27 : decode cX7_event 27 = .ok (.isub, 1) := by decide +kernel
theorem dX7_event_28 : decode cX7_event 28 = .ok (.iaload, 1) := by decide +kernel
theorem dX7_event_29 : decode cX7_event 29 = .ok (.iastore, 1) := by decide +kernel
theorem dX7_event_30 : decode cX7_event 30 = .ok (.iinc 3 (-1), 3) := by decide +kernel
theorem dX7_event_33 : decode cX7_event 33 = .ok (.goto (-30), 3) := by decide +kernel
theorem dX7_event_36 : decode cX7_event 36 = .ok (.aload_n 0, 1) := by decide +kernel
theorem dX7_event_37 : decode cX7_event 37 = .ok (.getfield 7, 3) := by decide +kernel
theorem dX7_event_40 : decode cX7_event 40 = .ok (.sipush 134, 3) := by decide +kernel
theorem dX7_event_43 : decode cX7_event 43 = .ok (.iload_n 1, 1) := by decide +kernel
theorem dX7_event_44 : decode cX7_event 44 = .ok (.iastore, 1) := by decide +kernel
theorem dX7_event_45 : decode cX7_event 45 = .ok (.aload_n 0, 1) := by decide +kernel
theorem dX7_event_46 : decode cX7_event 46 = .ok (.getfield 7, 3) := by decide +kernel
theorem dX7_event_49 : decode cX7_event 49 = .ok (.sipush 135, 3) := by decide +kernel
theorem dX7_event_52 : decode cX7_event 52 = .ok (.aload_n 0, 1) := by decide +kernel
theorem dX7_event_53 : decode cX7_event 53 = .ok (.getfield 7, 3) := by decide +kernel
theorem dX7_event_56 : decode cX7_event 56 = .ok (.iconst 0, 1) := by decide +kernel
theorem dX7_event_57 : decode cX7_event 57 = .ok (.iaload, 1) := by decide +kernel
theorem dX7_event_58 : decode cX7_event 58 = .ok (.iastore, 1) := by decide +kernel
theorem dX7_event_59 : decode cX7_event 59 = .ok (.aload_n 0, 1) := by decide +kernel
theorem dX7_event_60 : decode cX7_event 60 = .ok (.getfield 7, 3) := by decide +kernel
theorem dX7_event_63 : decode cX7_event 63 = .ok (.sipush 136, 3) := by decide +kernel
theorem dX7_event_66 : decode cX7_event 66 = .ok (.iload_n 2, 1) := by decide +kernel
theorem dX7_event_67 : decode cX7_event 67 = .ok (.iastore, 1) := by decide +kernel
theorem dX7_event_68 : decode cX7_event 68 = .ok (.aload_n 0, 1) := by decide +kernel
theorem dX7_event_69 : decode cX7_event 69 = .ok (.getfield 7, 3) := by decide +kernel
theorem dX7_event_72 : decode cX7_event 72 = .ok (.bipush 19, 2) := by decide +kernel
theorem dX7_event_74 : decode cX7_event 74 = .ok (.dup2, 1) := by decide +kernel
theorem dX7_event_75 : decode cX7_event 75 = .ok (.iaload, 1) := by decide +kernel
theorem dX7_event_76 : decode cX7_event 76 = .ok (.aload_n 0, 1) := by decide +kernel
theorem dX7_event_77 : decode cX7_event 77 = .ok (.getfield 7, 3) := by decide +kernel
theorem dX7_event_80 : decode cX7_event 80 = .ok (.bipush 19, 2) := by decide +kernel
theorem dX7_event_82 : decode cX7_event 82 = .ok (.iaload, 1) := by decide +kernel
theorem dX7_event_83 : decode cX7_event 83 = .ok (.bipush 12, 2) := by decide +kernel
theorem dX7_event_85 : decode cX7_event 85 = .ok (.if_icmp .ge 7, 3) := by decide +kernel
theorem dX7_event_88 : decode cX7_event 88 = .ok (.iconst 1, 1) := by decide +kernel
theorem dX7_event_89 : decode cX7_event 89 = .ok (.goto 4, 3) := by decide +kernel
theorem dX7_event_92 : decode cX7_event 92 = .ok (.iconst 0, 1) := by decide +kernel
theorem dX7_event_93 : decode cX7_event 93 = .ok (.iadd, 1) := by decide +kernel
theorem dX7_event_94 : decode cX7_event 94 = .ok (.iastore, 1) := by decide +kernel
theorem dX7_event_95 : decode cX7_event 95 = .ok (.aload_n 0, 1) := by decide +kernel
theorem dX7_event_96 : decode cX7_event 96 = .ok (.dup, 1) := by decide +kernel
theorem dX7_event_97 : decode cX7_event 97 = .ok (.getfield 102, 3) := by decide +kernel
theorem dX7_event_100 : decode cX7_event 100 = .ok (.iconst 1, 1) := by decide +kernel
theorem dX7_event_101 : decode cX7_event 101 = .ok (.iload_n 1, 1) := by decide +kernel
theorem dX7_event_102 : decode cX7_event 102 = .ok (.ishl, 1) := by decide +kernel
theorem dX7_event_103 : decode cX7_event 103 = .ok (.ior, 1) := by decide +kernel
theorem dX7_event_104 : decode cX7_event 104 = .ok (.putfield 102, 3) := by decide +kernel
theorem dX7_event_107 : decode cX7_event 107 = .ok (.return_, 1) := by decide +kernel
theorem dX7_begins_0 : decode cX7_begins 0 = .ok (.aload_n 0, 1) := by decide +kernel
theorem dX7_begins_1 : decode cX7_begins 1 = .ok (.iload_n 1, 1) := by decide +kernel
theorem dX7_begins_2 : decode cX7_begins 2 = .ok (.iconst 4, 1) := by decide +kernel
theorem dX7_begins_3 : decode cX7_begins 3 = .ok (.iload_n 2, 1) := by decide +kernel
theorem dX7_begins_4 : decode cX7_begins 4 = .ok (.invokevirtual 74, 3) := by decide +kernel
theorem dX7_begins_7 : decode cX7_begins 7 = .ok (.aload_n 0, 1) := by decide +kernel
theorem dX7_begins_8 : decode cX7_begins 8 = .ok (.iload_n 1, 1) := by decide +kernel
theorem dX7_begins_9 : decode cX7_begins 9 = .ok (.bipush 6, 2) := by decide +kernel
theorem dX7_begins_11 : decode cX7_begins 11 = .ok (.iconst 0, 1) := by decide +kernel
theorem dX7_begins_12 : decode cX7_begins 12 = .ok (.invokevirtual 74, 3) := by decide +kernel
theorem dX7_begins_15 : decode cX7_begins 15 = .ok (.aload_n 0, 1) := by decide +kernel
theorem dX7_begins_16 : decode cX7_begins 16 = .ok (.iload_n 1, 1) := by decide +kernel
theorem dX7_begins_17 : decode cX7_begins 17 = .ok (.bipush 7, 2) := by decide +kernel
theorem dX7_begins_19 : decode cX7_begins 19 = .ok (.aload_n 0, 1) := by decide +kernel
theorem dX7_begins_20 : decode cX7_begins 20 = .ok (.iload_n 1, 1) := by decide +kernel
theorem dX7_begins_21 : decode cX7_begins 21 = .ok (.bipush 7, 2) := by decide +kernel
theorem dX7_begins_23 : decode cX7_begins 23 = .ok (.invokevirtual 78, 3) := by decide +kernel
theorem dX7_begins_26 : decode cX7_begins 26 = .ok (.iconst 1, 1) := by decide +kernel
theorem dX7_begins_27 : decode cX7_begins 27 = .ok (.iadd, 1) := by decide +kernel
theorem dX7_begins_28 : decode cX7_begins 28 = .ok (.invokevirtual 74, 3) := by decide +kernel
theorem dX7_begins_31 : decode cX7_begins 31 = .ok (.aload_n 0, 1) := by decide +kernel
theorem dX7_begins_32 : decode cX7_begins 32 = .ok (.getfield 7, 3) := by decide +kernel
theorem dX7_begins_35 : decode cX7_begins 35 = .ok (.iconst 4, 1) := by decide +kernel
theorem dX7_begins_36 : decode cX7_begins 36 = .ok (.iload_n 3, 1) := by decide +kernel
theorem dX7_begins_37 : decode cX7_begins 37 = .ok (.ifCond .eq 7, 3) := by decide +kernel
theorem dX7_begins_40 : decode cX7_begins 40 = .ok (.iload_n 1, 1) := by decide +kernel
theorem dX7_begins_41 : decode cX7_begins 41 = .ok (.goto 9, 3) := by decide +kernel
theorem dX7_begins_44 : decode cX7_begins 44 = .ok (.aload_n 0, 1) := by decide +kernel
theorem dX7_begins_45 : decode cX7_begins 45 = .ok (.getfield 7, 3) := by decide +kernel
theorem dX7_begins_48 : decode cX7_begins 48 = .ok (.iconst 4, 1) := by decide +kernel
theorem dX7_begins_49 : decode cX7_begins 49 = .ok (.iaload, 1) := by decide +kernel
theorem dX7_begins_50 : decode cX7_begins 50 = .ok (.iastore, 1) := by decide +kernel
theorem dX7_begins_51 : decode cX7_begins 51 = .ok (.aload_n 0, 1) := by decide +kernel
theorem dX7_begins_52 : decode cX7_begins 52 = .ok (.iconst 0, 1) := by decide +kernel
theorem dX7_begins_53 : decode cX7_begins 53 = .ok (.iload_n 1, 1) := by decide +kernel
theorem dX7_begins_54 : decode cX7_begins 54 = .ok (.invokevirtual 105, 3) := by decide +kernel
theorem dX7_begins_57 : decode cX7_begins 57 = .ok (.return_, 1) := by decide +kernel
theorem dX7_start_0 : decode cX7_start 0 = .ok (.aload_n 0, 1) := by decide +kernel
theorem dX7_start_1 : decode cX7_start 1 = .ok (.iload_n 1, 1) := by decide +kernel
theorem dX7_start_2 : decode cX7_start 2 = .ok (.iconst 0, 1) := by decide +kernel
theorem dX7_start_3 : decode cX7_start 3 = .ok (.invokevirtual 78, 3) := by decide +kernel
theorem dX7_start_6 : decode cX7_start 6 = .ok (.ifCond .ne 13, 3) := by decide +kernel
theorem dX7_start_9 : decode cX7_start 9 = .ok (.aload_n 0, 1) := by decide +kernel
theorem dX7_start_10 : decode cX7_start 10 = .ok (.iload_n 1, 1) := by decide +kernel
theorem dX7_start_11 : decode cX7_start 11 = .ok (.sipush 1000, 3) := by decide +kernel
theorem dX7_start_14 : decode cX7_start 14 = .ok (.iconst 0, 1) := by decide +kernel
theorem dX7_start_15 : decode cX7_start 15 = .ok (.invokevirtual 109, 3) := by decide +kernel
theorem dX7_start_18 : decode cX7_start 18 = .ok (.return_, 1) := by decide +kernel
theorem dX7_start_19 : decode cX7_start 19 = .ok (.aload_n 0, 1) := by decide +kernel
theorem dX7_start_20 : decode cX7_start 20 = .ok (.getfield 7, 3) := by decide +kernel
theorem dX7_start_23 : decode cX7_start 23 = .ok (.iconst 4, 1) := by decide +kernel
theorem dX7_start_24 : decode cX7_start 24 = .ok (.iaload, 1) := by decide +kernel
theorem dX7_start_25 : decode cX7_start 25 = .ok (.iconst (-1), 1) := by decide +kernel
theorem dX7_start_26 : decode cX7_start 26 = .ok (.if_icmp .eq 17, 3) := by decide +kernel
theorem dX7_start_29 : decode cX7_start 29 = .ok (.aload_n 0, 1) := by decide +kernel
theorem dX7_start_30 : decode cX7_start 30 = .ok (.aload_n 0, 1) := by decide +kernel
theorem dX7_start_31 : decode cX7_start 31 = .ok (.getfield 7, 3) := by decide +kernel
theorem dX7_start_34 : decode cX7_start 34 = .ok (.iconst 4, 1) := by decide +kernel
theorem dX7_start_35 : decode cX7_start 35 = .ok (.iaload, 1) := by decide +kernel
theorem dX7_start_36 : decode cX7_start 36 = .ok (.iconst 4, 1) := by decide +kernel
theorem dX7_start_37 : decode cX7_start 37 = .ok (.sipush 1000, 3) := by decide +kernel
theorem dX7_start_40 : decode cX7_start 40 = .ok (.invokevirtual 74, 3) := by decide +kernel
theorem dX7_start_43 : decode cX7_start 43 = .ok (.aload_n 0, 1) := by decide +kernel
theorem dX7_start_44 : decode cX7_start 44 = .ok (.iload_n 1, 1) := by decide +kernel
theorem dX7_start_45 : decode cX7_start 45 = .ok (.aload_n 0, 1) := by decide +kernel
theorem dX7_start_46 : decode cX7_start 46 = .ok (.iconst 4, 1) := by decide +kernel
theorem dX7_start_47 : decode cX7_start 47 = .ok (.invokevirtual 66, 3) := by decide +kernel
theorem dX7_start_50 : decode cX7_start 50 = .ok (.iconst 1, 1) := by decide +kernel
theorem dX7_start_51 : decode cX7_start 51 = .ok (.invokevirtual 109, 3) := by decide +kernel
theorem dX7_start_54 : decode cX7_start 54 = .ok (.return_, 1) := by decide +kernel
theorem dX7_nextVariable_0 : decode cX7_nextVariable 0 = .ok (.iconst (-1), 1) := by decide +kernel
theorem dX7_nextVariable_1 : decode cX7_nextVariable 1 = .ok (.istore_n 1, 1) := by decide +kernel
theorem dX7_nextVariable_2 : decode cX7_nextVariable 2 = .ok (.iconst 0, 1) := by decide +kernel
theorem dX7_nextVariable_3 : decode cX7_nextVariable 3 = .ok (.istore_n 2, 1) := by decide +kernel
theorem dX7_nextVariable_4 : decode cX7_nextVariable 4 = .ok (.iload_n 2, 1) := by decide +kernel
theorem dX7_nextVariable_5 : decode cX7_nextVariable 5 = .ok (.aload_n 0, 1) := by decide +kernel
theorem dX7_nextVariable_6 : decode cX7_nextVariable 6 = .ok (.getfield 7, 3) := by decide +kernel
theorem dX7_nextVariable_9 : decode cX7_nextVariable 9 = .ok (.bipush 14, 2) := by decide +kernel
theorem dX7_nextVariable_11 : decode cX7_nextVariable 11 = .ok (.iaload, 1) := by decide +kernel
theorem dX7_nextVariable_12 : decode cX7_nextVariable 12 = .ok (.if_icmp .ge 62, 3) := by decide +kernel
theorem dX7_nextVariable_15 : decode cX7_nextVariable 15 = .ok (.aload_n 0, 1) := by decide +kernel
theorem dX7_nextVariable_16 : decode cX7_nextVariable 16 = .ok (.iload_n 2, 1) := by decide +kernel
theorem dX7_nextVariable_17 : decode cX7_nextVariable 17 = .ok (.invokevirtual 82, 3) := by decide +kernel
theorem dX7_nextVariable_20 : decode cX7_nextVariable 20 = .ok (.ifCond .eq 16, 3) := by decide +kernel
theorem dX7_nextVariable_23 : decode cX7_nextVariable 23 = .ok (.aload_n 0, 1) := by decide +kernel
theorem dX7_nextVariable_24 : decode cX7_nextVariable 24 = .ok (.iload_n 2, 1) := by decide +kernel
theorem dX7_nextVariable_25 : decode cX7_nextVariable 25 = .ok (.iconst 0, 1) := by decide +kernel
theorem dX7_nextVariable_26 : decode cX7_nextVariable 26 = .ok (.invokevirtual 78, 3) := by decide +kernel
theorem dX7_nextVariable_29 : decode cX7_nextVariable 29 = .ok (.ifCond .eq 7, 3) := by decide +kernel
theorem dX7_nextVariable_32 : decode cX7_nextVariable 32 = .ok (.iconst 1, 1) := by decide +kernel
theorem dX7_nextVariable_33 : decode cX7_nextVariable 33 = .ok (.goto 4, 3) := by decide +kernel
theorem dX7_nextVariable_36 : decode cX7_nextVariable 36 = .ok (.iconst 0, 1) := by decide +kernel
theorem dX7_nextVariable_37 : decode cX7_nextVariable 37 = .ok (.istore_n 3, 1) := by decide +kernel
theorem dX7_nextVariable_38 : decode cX7_nextVariable 38 = .ok (.iload_n 3, 1) := by decide +kernel
theorem dX7_nextVariable_39 : decode cX7_nextVariable 39 = .ok (.ifCond .eq 27, 3) := by decide +kernel
theorem dX7_nextVariable_42 : decode cX7_nextVariable 42 = .ok (.iload_n 1, 1) := by decide +kernel
theorem dX7_nextVariable_43 : decode cX7_nextVariable 43 = .ok (.iconst (-1), 1) := by decide +kernel
theorem dX7_nextVariable_44 : decode cX7_nextVariable 44 = .ok (.if_icmp .eq 18, 3) := by decide +kernel
theorem dX7_nextVariable_47 : decode cX7_nextVariable 47 = .ok (.aload_n 0, 1) := by decide +kernel
theorem dX7_nextVariable_48 : decode cX7_nextVariable 48 = .ok (.iload_n 2, 1) := by decide +kernel
theorem dX7_nextVariable_49 : decode cX7_nextVariable 49 = .ok (.iconst 5, 1) := by decide +kernel
theorem dX7_nextVariable_50 : decode cX7_nextVariable 50 = .ok (.invokevirtual 78, 3) := by decide +kernel
theorem dX7_nextVariable_53 : decode cX7_nextVariable 53 = .ok (.aload_n 0, 1) := by decide +kernel
theorem dX7_nextVariable_54 : decode cX7_nextVariable 54 = .ok (.iload_n 1, 1) := by decide +kernel
theorem dX7_nextVariable_55 : decode cX7_nextVariable 55 = .ok (.iconst 5, 1) := by decide +kernel
theorem dX7_nextVariable_56 : decode cX7_nextVariable 56 = .ok (.invokevirtual 78, 3) := by decide +kernel
theorem dX7_nextVariable_59 : decode cX7_nextVariable 59 = .ok (.if_icmp .ge 7, 3) := by decide +kernel
theorem dX7_nextVariable_62 : decode cX7_nextVariable 62 = .ok (.iload_n 2, 1) := by decide +kernel
theorem dX7_nextVariable_63 : decode cX7_nextVariable 63 = .ok (.goto 4, 3) := by decide +kernel
theorem dX7_nextVariable_66 : decode cX7_nextVariable 66 = .ok (.iload_n 1, 1) := by decide +kernel
theorem dX7_nextVariable_67 : decode cX7_nextVariable 67 = .ok (.istore_n 1, 1) := by decide +kernel
theorem dX7_nextVariable_68 : decode cX7_nextVariable 68 = .ok (.iinc 2 1, 3) := by decide +kernel
theorem dX7_nextVariable_71 : decode cX7_nextVariable 71 = .ok (.goto (-67), 3) := by decide +kernel
theorem dX7_nextVariable_74 : decode cX7_nextVariable 74 = .ok (.iload_n 1, 1) := by decide +kernel
theorem dX7_nextVariable_75 : decode cX7_nextVariable 75 = .ok (.ireturn, 1) := by decide +kernel
theorem dX7_stop_0 : decode cX7_stop 0 = .ok (.aload_n 0, 1) := by decide +kernel
theorem dX7_stop_1 : decode cX7_stop 1 = .ok (.iload_n 1, 1) := by decide +kernel
theorem dX7_stop_2 : decode cX7_stop 2 = .ok (.iconst 4, 1) := by decide +kernel
theorem dX7_stop_3 : decode cX7_stop 3 = .ok (.iconst 0, 1) := by decide +kernel
theorem dX7_stop_4 : decode cX7_stop 4 = .ok (.invokevirtual 74, 3) := by decide +kernel
theorem dX7_stop_7 : decode cX7_stop 7 = .ok (.aload_n 0, 1) := by decide +kernel
theorem dX7_stop_8 : decode cX7_stop 8 = .ok (.iload_n 1, 1) := by decide +kernel
theorem dX7_stop_9 : decode cX7_stop 9 = .ok (.bipush 6, 2) := by decide +kernel
theorem dX7_stop_11 : decode cX7_stop 11 = .ok (.iconst 0, 1) := by decide +kernel
theorem dX7_stop_12 : decode cX7_stop 12 = .ok (.invokevirtual 74, 3) := by decide +kernel
theorem dX7_stop_15 : decode cX7_stop 15 = .ok (.aload_n 0, 1) := by decide +kernel
theorem dX7_stop_16 : decode cX7_stop 16 = .ok (.getfield 7, 3) := by decide +kernel
theorem dX7_stop_19 : decode cX7_stop 19 = .ok (.iconst 4, 1) := by decide +kernel
theorem dX7_stop_20 : decode cX7_stop 20 = .ok (.aload_n 0, 1) := by decide +kernel
theorem dX7_stop_21 : decode cX7_stop 21 = .ok (.getfield 7, 3) := by decide +kernel
theorem dX7_stop_24 : decode cX7_stop 24 = .ok (.iconst 4, 1) := by decide +kernel
theorem dX7_stop_25 : decode cX7_stop 25 = .ok (.iaload, 1) := by decide +kernel
theorem dX7_stop_26 : decode cX7_stop 26 = .ok (.iload_n 1, 1) := by decide +kernel
theorem dX7_stop_27 : decode cX7_stop 27 = .ok (.if_icmp .ne 10, 3) := by decide +kernel
theorem dX7_stop_30 : decode cX7_stop 30 = .ok (.aload_n 0, 1) := by decide +kernel
theorem dX7_stop_31 : decode cX7_stop 31 = .ok (.invokevirtual 113, 3) := by decide +kernel
theorem dX7_stop_34 : decode cX7_stop 34 = .ok (.goto 9, 3) := by decide +kernel
theorem dX7_stop_37 : decode cX7_stop 37 = .ok (.aload_n 0, 1) := by decide +kernel
theorem dX7_stop_38 : decode cX7_stop 38 = .ok (.getfield 7, 3) := by decide +kernel
theorem dX7_stop_41 : decode cX7_stop 41 = .ok (.iconst 4, 1) := by decide +kernel
theorem dX7_stop_42 : decode cX7_stop 42 = .ok (.iaload, 1) := by decide +kernel
theorem dX7_stop_43 : decode cX7_stop 43 = .ok (.iastore, 1) := by decide +kernel
theorem dX7_stop_44 : decode cX7_stop 44 = .ok (.aload_n 0, 1) := by decide +kernel
theorem dX7_stop_45 : decode cX7_stop 45 = .ok (.iconst 1, 1) := by decide +kernel
theorem dX7_stop_46 : decode cX7_stop 46 = .ok (.iload_n 1, 1) := by decide +kernel
theorem dX7_stop_47 : decode cX7_stop 47 = .ok (.invokevirtual 105, 3) := by decide +kernel
theorem dX7_stop_50 : decode cX7_stop 50 = .ok (.return_, 1) := by decide +kernel
theorem dX7_serves_0 : decode cX7_serves 0 = .ok (.iload_n 2, 1) := by decide +kernel
theorem dX7_serves_1 : decode cX7_serves 1 = .ok (.ifCond .ne 15, 3) := by decide +kernel
theorem dX7_serves_4 : decode cX7_serves 4 = .ok (.aload_n 0, 1) := by decide +kernel
theorem dX7_serves_5 : decode cX7_serves 5 = .ok (.iload_n 1, 1) := by decide +kernel
theorem dX7_serves_6 : decode cX7_serves 6 = .ok (.invokevirtual 82, 3) := by decide +kernel
theorem dX7_serves_9 : decode cX7_serves 9 = .ok (.ifCond .eq 7, 3) := by decide +kernel
theorem dX7_serves_12 : decode cX7_serves 12 = .ok (.iconst 1, 1) := by decide +kernel
theorem dX7_serves_13 : decode cX7_serves 13 = .ok (.goto 4, 3) := by decide +kernel
theorem dX7_serves_16 : decode cX7_serves 16 = .ok (.iconst 0, 1) := by decide +kernel
theorem dX7_serves_17 : decode cX7_serves 17 = .ok (.istore_n 3, 1) := by decide +kernel
theorem dX7_serves_18 : decode cX7_serves 18 = .ok (.aload_n 0, 1) := by decide +kernel
theorem dX7_serves_19 : decode cX7_serves 19 = .ok (.iload_n 1, 1) := by decide +kernel
theorem dX7_serves_20 : decode cX7_serves 20 = .ok (.iconst 3, 1) := by decide +kernel
theorem dX7_serves_21 : decode cX7_serves 21 = .ok (.iload_n 2, 1) := by decide +kernel
theorem dX7_serves_22 : decode cX7_serves 22 = .ok (.invokevirtual 74, 3) := by decide +kernel
theorem dX7_serves_25 : decode cX7_serves 25 = .ok (.iload_n 3, 1) := by decide +kernel
theorem dX7_serves_26 : decode cX7_serves 26 = .ok (.ifCond .eq 8, 3) := by decide +kernel
theorem dX7_serves_29 : decode cX7_serves 29 = .ok (.aload_n 0, 1) := by decide +kernel
theorem dX7_serves_30 : decode cX7_serves 30 = .ok (.iload_n 1, 1) := by decide +kernel
theorem dX7_serves_31 : decode cX7_serves 31 = .ok (.invokevirtual 116, 3) := by decide +kernel
theorem dX7_serves_34 : decode cX7_serves 34 = .ok (.iload_n 3, 1) := by decide +kernel
theorem dX7_serves_35 : decode cX7_serves 35 = .ok (.ifCond .eq 7, 3) := by decide +kernel
theorem dX7_serves_38 : decode cX7_serves 38 = .ok (.iconst 1, 1) := by decide +kernel
theorem dX7_serves_39 : decode cX7_serves 39 = .ok (.goto 4, 3) := by decide +kernel
theorem dX7_serves_42 : decode cX7_serves 42 = .ok (.iconst 0, 1) := by decide +kernel
theorem dX7_serves_43 : decode cX7_serves 43 = .ok (.ireturn, 1) := by decide +kernel
theorem dX7_service_0 : decode cX7_service 0 = .ok (.aload_n 0, 1) := by decide +kernel
theorem dX7_service_1 : decode cX7_service 1 = .ok (.iload_n 1, 1) := by decide +kernel
theorem dX7_service_2 : decode cX7_service 2 = .ok (.invokevirtual 120, 3) := by decide +kernel
theorem dX7_service_5 : decode cX7_service 5 = .ok (.ifCond .eq 13, 3) := by decide +kernel
theorem dX7_service_8 : decode cX7_service 8 = .ok (.iload_n 2, 1) := by decide +kernel
theorem dX7_service_9 : decode cX7_service 9 = .ok (.i2l, 1) := by decide +kernel
theorem dX7_service_10 : decode cX7_service 10 = .ok (.lconst 0, 1) := by decide +kernel
theorem dX7_service_11 : decode cX7_service 11 = .ok (.lconst 1, 1) := by decide +kernel
theorem dX7_service_12 : decode cX7_service 12 = .ok (.invokestatic 30, 3) := by decide +kernel
theorem dX7_service_15 : decode cX7_service 15 = .ok (.ifCond .ne 6, 3) := by decide +kernel
theorem dX7_service_18 : decode cX7_service 18 = .ok (.ldc 62, 2) := by decide +kernel
theorem dX7_service_20 : decode cX7_service 20 = .ok (.ireturn, 1) := by decide +kernel
theorem dX7_service_21 : decode cX7_service 21 = .ok (.aload_n 0, 1) := by decide +kernel
theorem dX7_service_22 : decode cX7_service 22 = .ok (.iload_n 1, 1) := by decide +kernel
theorem dX7_service_23 : decode cX7_service 23 = .ok (.iconst 3, 1) := by decide +kernel
theorem dX7_service_24 : decode cX7_service 24 = .ok (.invokevirtual 78, 3) := by decide +kernel
theorem dX7_service_27 : decode cX7_service 27 = .ok (.iload_n 2, 1) := by decide +kernel
theorem dX7_service_28 : decode cX7_service 28 = .ok (.if_icmp .ne 6, 3) := by decide +kernel
theorem dX7_service_31 : decode cX7_service 31 = .ok (.ldc 123, 2) := by decide +kernel
theorem dX7_service_33 : decode cX7_service 33 = .ok (.ireturn, 1) := by decide +kernel
theorem dX7_service_34 : decode cX7_service 34 = .ok (.aload_n 0, 1) := by decide +kernel
theorem dX7_service_35 : decode cX7_service 35 = .ok (.invokevirtual 63, 3) := by decide +kernel
theorem dX7_service_38 : decode cX7_service 38 = .ok (.aload_n 0, 1) := by decide +kernel
theorem dX7_service_39 : decode cX7_service 39 = .ok (.iload_n 1, 1) := by decide +kernel
theorem dX7_service_40 : decode cX7_service 40 = .ok (.iload_n 2, 1) := by decide +kernel
theorem dX7_service_41 : decode cX7_service 41 = .ok (.invokevirtual 124, 3) := by decide +kernel
theorem dX7_service_44 : decode cX7_service 44 = .ok (.ireturn, 1) := by decide +kernel
theorem dX7_pumpOf_0 : decode cX7_pumpOf 0 = .ok (.aload_n 0, 1) := by decide +kernel
theorem dX7_pumpOf_1 : decode cX7_pumpOf 1 = .ok (.iload_n 1, 1) := by decide +kernel
theorem dX7_pumpOf_2 : decode cX7_pumpOf 2 = .ok (.invokevirtual 120, 3) := by decide +kernel
theorem dX7_pumpOf_5 : decode cX7_pumpOf 5 = .ok (.ifCond .eq 15, 3) := by decide +kernel
theorem dX7_pumpOf_8 : decode cX7_pumpOf 8 = .ok (.iload_n 2, 1) := by decide +kernel
theorem dX7_pumpOf_9 : decode cX7_pumpOf 9 = .ok (.i2l, 1) := by decide +kernel
theorem dX7_pumpOf_10 : decode cX7_pumpOf 10 = .ok (.lconst 0, 1) := by decide +kernel
theorem dX7_pumpOf_11 : decode cX7_pumpOf 11 = .ok (.ldc2_w 127, 3) := by decide +kernel
theorem dX7_pumpOf_14 : decode cX7_pumpOf 14 = .ok (.invokestatic 30, 3) := by decide +kernel
theorem dX7_pumpOf_17 : decode cX7_pumpOf 17 = .ok (.ifCond .ne 6, 3) := by decide +kernel
theorem dX7_pumpOf_20 : decode cX7_pumpOf 20 = .ok (.ldc 62, 2) := by decide +kernel
theorem dX7_pumpOf_22 : decode cX7_pumpOf 22 = .ok (.ireturn, 1) := by decide +kernel
theorem dX7_pumpOf_23 : decode cX7_pumpOf 23 = .ok (.iload_n 2, 1) := by decide +kernel
theorem dX7_pumpOf_24 : decode cX7_pumpOf 24 = .ok (.tableswitch 91 5 9 #[36, 52, 52, 52, 61], 36) := by decide +kernel
theorem dX7_pumpOf_60 : decode cX7_pumpOf 60 = .ok (.aload_n 0, 1) := by decide +kernel
theorem dX7_pumpOf_61 : decode cX7_pumpOf 61 = .ok (.getfield 7, 3) := by decide +kernel
theorem dX7_pumpOf_64 : decode cX7_pumpOf 64 = .ok (.iconst 4, 1) := by decide +kernel
theorem dX7_pumpOf_65 : decode cX7_pumpOf 65 = .ok (.iaload, 1) := by decide +kernel
theorem dX7_pumpOf_66 : decode cX7_pumpOf 66 = .ok (.iload_n 1, 1) := by decide +kernel
theorem dX7_pumpOf_67 : decode cX7_pumpOf 67 = .ok (.if_icmp .ne 7, 3) := by decide +kernel
theorem dX7_pumpOf_70 : decode cX7_pumpOf 70 = .ok (.iconst 1, 1) := by decide +kernel
theorem dX7_pumpOf_71 : decode cX7_pumpOf 71 = .ok (.goto 4, 3) := by decide +kernel
theorem dX7_pumpOf_74 : decode cX7_pumpOf 74 = .ok (.iconst 0, 1) := by decide +kernel
theorem dX7_pumpOf_75 : decode cX7_pumpOf 75 = .ok (.ireturn, 1) := by decide +kernel
theorem dX7_pumpOf_76 : decode cX7_pumpOf 76 = .ok (.aload_n 0, 1) := by decide +kernel
theorem dX7_pumpOf_77 : decode cX7_pumpOf 77 = .ok (.iload_n 1, 1) := by decide +kernel
theorem dX7_pumpOf_78 : decode cX7_pumpOf 78 = .ok (.iload_n 2, 1) := by decide +kernel
theorem dX7_pumpOf_79 : decode cX7_pumpOf 79 = .ok (.iconst 1, 1) := by decide +kernel
theorem dX7_pumpOf_80 : decode cX7_pumpOf 80 = .ok (.isub, 1) := by decide +kernel
theorem dX7_pumpOf_81 : decode cX7_pumpOf 81 = .ok (.invokevirtual 78, 3) := by decide +kernel
theorem dX7_pumpOf_84 : decode cX7_pumpOf 84 = .ok (.ireturn, 1) := by decide +kernel
theorem dX7_pumpOf_85 : decode cX7_pumpOf 85 = .ok (.aload_n 0, 1) := by decide +kernel
theorem dX7_pumpOf_86 : decode cX7_pumpOf 86 = .ok (.iload_n 1, 1) := by decide +kernel
theorem dX7_pumpOf_87 : decode cX7_pumpOf 87 = .ok (.invokevirtual 82, 3) := by decide +kernel
theorem dX7_pumpOf_90 : decode cX7_pumpOf 90 = .ok (.ifCond .eq 23, 3) := by decide +kernel
theorem dX7_pumpOf_93 : decode cX7_pumpOf 93 = .ok (.aload_n 0, 1) := by decide +kernel
theorem dX7_pumpOf_94 : decode cX7_pumpOf 94 = .ok (.iload_n 1, 1) := by decide +kernel
theorem dX7_pumpOf_95 : decode cX7_pumpOf 95 = .ok (.aload_n 0, 1) := by decide +kernel
theorem dX7_pumpOf_96 : decode cX7_pumpOf 96 = .ok (.iload_n 1, 1) := by decide +kernel
theorem dX7_pumpOf_97 : decode cX7_pumpOf 97 = .ok (.iconst 4, 1) := by decide +kernel
theorem dX7_pumpOf_98 : decode cX7_pumpOf 98 = .ok (.invokevirtual 78, 3) := by decide +kernel
theorem dX7_pumpOf_101 : decode cX7_pumpOf 101 = .ok (.aload_n 0, 1) := by decide +kernel
theorem dX7_pumpOf_102 : decode cX7_pumpOf 102 = .ok (.getfield 7, 3) := by decide +kernel
theorem dX7_pumpOf_105 : decode cX7_pumpOf 105 = .ok (.iconst 1, 1) := by decide +kernel
theorem dX7_pumpOf_106 : decode cX7_pumpOf 106 = .ok (.iaload, 1) := by decide +kernel
theorem dX7_pumpOf_107 : decode cX7_pumpOf 107 = .ok (.invokevirtual 129, 3) := by decide +kernel
theorem dX7_pumpOf_110 : decode cX7_pumpOf 110 = .ok (.goto 4, 3) := by decide +kernel
theorem dX7_pumpOf_113 : decode cX7_pumpOf 113 = .ok (.iconst 0, 1) := by decide +kernel
theorem dX7_pumpOf_114 : decode cX7_pumpOf 114 = .ok (.ireturn, 1) := by decide +kernel
theorem dX7_pumpOf_115 : decode cX7_pumpOf 115 = .ok (.aload_n 0, 1) := by decide +kernel
theorem dX7_pumpOf_116 : decode cX7_pumpOf 116 = .ok (.iload_n 1, 1) := by decide +kernel
theorem dX7_pumpOf_117 : decode cX7_pumpOf 117 = .ok (.iload_n 2, 1) := by decide +kernel
theorem dX7_pumpOf_118 : decode cX7_pumpOf 118 = .ok (.invokevirtual 78, 3) := by decide +kernel
theorem dX7_pumpOf_121 : decode cX7_pumpOf 121 = .ok (.ireturn, 1) := by decide +kernel
theorem dX7_curve_0 : decode cX7_curve 0 = .ok (.aload_n 0, 1) := by decide +kernel
theorem dX7_curve_1 : decode cX7_curve 1 = .ok (.iload_n 1, 1) := by decide +kernel
theorem dX7_curve_2 : decode cX7_curve 2 = .ok (.invokevirtual 120, 3) := by decide +kernel
theorem dX7_curve_5 : decode cX7_curve 5 = .ok (.ifCond .eq 39, 3) := by decide +kernel
theorem dX7_curve_8 : decode cX7_curve 8 = .ok (.iload_n 2, 1) := by decide +kernel
theorem dX7_curve_9 : decode cX7_curve 9 = .ok (.i2l, 1) := by decide +kernel
theorem dX7_curve_10 : decode cX7_curve 10 = .ok (.ldc2_w 36, 3) := by decide +kernel
theorem dX7_curve_13 : decode cX7_curve 13 = .ok (.ldc2_w 40, 3) := by decide +kernel
theorem dX7_curve_16 : decode cX7_curve 16 = .ok (.invokestatic 30, 3) := by decide +kernel
theorem dX7_curve_19 : decode cX7_curve 19 = .ok (.ifCond .eq 25, 3) := by decide +kernel
theorem dX7_curve_22 : decode cX7_curve 22 = .ok (.iload_n 3, 1) := by decide +kernel
theorem dX7_curve_23 : decode cX7_curve 23 = .ok (.i2l, 1) := by decide +kernel
theorem dX7_curve_24 : decode cX7_curve 24 = .ok (.lconst 0, 1) := by decide +kernel
theorem dX7_curve_25 : decode cX7_curve 25 = .ok (.ldc2_w 71, 3) := by decide +kernel
theorem dX7_curve_28 : decode cX7_curve 28 = .ok (.invokestatic 30, 3) := by decide +kernel
theorem dX7_curve_31 : decode cX7_curve 31 = .ok (.ifCond .eq 13, 3) := by decide +kernel
theorem dX7_curve_34 : decode cX7_curve 34 = .ok (.aload_n 0, 1) := by decide +kernel
theorem dX7_curve_35 : decode cX7_curve 35 = .ok (.iload_n 1, 1) := by decide +kernel
theorem dX7_curve_36 : decode cX7_curve 36 = .ok (.iload_n 2, 1) := by decide +kernel
theorem dX7_curve_37 : decode cX7_curve 37 = .ok (.iload_n 3, 1) := by decide +kernel
theorem dX7_curve_38 : decode cX7_curve 38 = .ok (.invokevirtual 129, 3) := by decide +kernel
theorem dX7_curve_41 : decode cX7_curve 41 = .ok (.goto 5, 3) := by decide +kernel
theorem dX7_curve_44 : decode cX7_curve 44 = .ok (.ldc 62, 2) := by decide +kernel
theorem dX7_curve_46 : decode cX7_curve 46 = .ok (.ireturn, 1) := by decide +kernel
theorem dX7_readyAt_0 : decode cX7_readyAt 0 = .ok (.iload_n 1, 1) := by decide +kernel
theorem dX7_readyAt_1 : decode cX7_readyAt 1 = .ok (.ifCond .ge 6, 3) := by decide +kernel
theorem dX7_readyAt_4 : decode cX7_readyAt 4 = .ok (.ldc 62, 2) := by decide +kernel
theorem dX7_readyAt_6 : decode cX7_readyAt 6 = .ok (.ireturn, 1) := by decide +kernel
theorem dX7_readyAt_7 : decode cX7_readyAt 7 = .ok (.aload_n 0, 1) := by decide +kernel
theorem dX7_readyAt_8 : decode cX7_readyAt 8 = .ok (.iload_n 1, 1) := by decide +kernel
theorem dX7_readyAt_9 : decode cX7_readyAt 9 = .ok (.invokevirtual 133, 3) := by decide +kernel
theorem dX7_readyAt_12 : decode cX7_readyAt 12 = .ok (.istore_n 2, 1) := by decide +kernel
theorem dX7_readyAt_13 : decode cX7_readyAt 13 = .ok (.iload_n 2, 1) := by decide +kernel
theorem dX7_readyAt_14 : decode cX7_readyAt 14 = .ok (.iconst (-1), 1) := by decide +kernel
theorem dX7_readyAt_15 : decode cX7_readyAt 15 = .ok (.if_icmp .ne 8, 3) := by decide +kernel
theorem dX7_readyAt_18 : decode cX7_readyAt 18 = .ok (.ldc 136, 2) := by decide +kernel
theorem dX7_readyAt_20 : decode cX7_readyAt 20 = .ok (.goto 4, 3) := by decide +kernel
theorem dX7_readyAt_23 : decode cX7_readyAt 23 = .ok (.iload_n 2, 1) := by decide +kernel
theorem dX7_readyAt_24 : decode cX7_readyAt 24 = .ok (.ireturn, 1) := by decide +kernel
theorem dX7_balance_0 : decode cX7_balance 0 = .ok (.aload_n 0, 1) := by decide +kernel
theorem dX7_balance_1 : decode cX7_balance 1 = .ok (.getfield 7, 3) := by decide +kernel
theorem dX7_balance_4 : decode cX7_balance 4 = .ok (.bipush 14, 2) := by decide +kernel
theorem dX7_balance_6 : decode cX7_balance 6 = .ok (.iaload, 1) := by decide +kernel
theorem dX7_balance_7 : decode cX7_balance 7 = .ok (.ifCond .ne 6, 3) := by decide +kernel
theorem dX7_balance_10 : decode cX7_balance 10 = .ok (.ldc 136, 2) := by decide +kernel
theorem dX7_balance_12 : decode cX7_balance 12 = .ok (.ireturn, 1) := by decide +kernel
theorem dX7_balance_13 : decode cX7_balance 13 = .ok (.aload_n 0, 1) := by decide +kernel
theorem dX7_balance_14 : decode cX7_balance 14 = .ok (.iconst 0, 1) := by decide +kernel
theorem dX7_balance_15 : decode cX7_balance 15 = .ok (.iconst 5, 1) := by decide +kernel
theorem dX7_balance_16 : decode cX7_balance 16 = .ok (.invokevirtual 78, 3) := by decide +kernel
theorem dX7_balance_19 : decode cX7_balance 19 = .ok (.istore_n 1, 1) := by decide +kernel
theorem dX7_balance_20 : decode cX7_balance 20 = .ok (.aload_n 0, 1) := by decide +kernel
theorem dX7_balance_21 : decode cX7_balance 21 = .ok (.iconst 0, 1) := by decide +kernel
theorem dX7_balance_22 : decode cX7_balance 22 = .ok (.iconst 5, 1) := by decide +kernel
theorem dX7_balance_23 : decode cX7_balance 23 = .ok (.invokevirtual 78, 3) := by decide +kernel
theorem dX7_balance_26 : decode cX7_balance 26 = .ok (.istore_n 2, 1) := by decide +kernel
theorem dX7_balance_27 : decode cX7_balance 27 = .ok (.iconst 1, 1) := by decide +kernel
theorem dX7_balance_28 : decode cX7_balance 28 = .ok (.istore_n 3, 1) := by decide +kernel
theorem dX7_balance_29 : decode cX7_balance 29 = .ok (.iload_n 3, 1) := by decide +kernel
theorem dX7_balance_30 : decode cX7_balance 30 = .ok (.aload_n 0, 1) := by decide +kernel
theorem dX7_balance_31 : decode cX7_balance 31 = .ok (.getfield 7, 3) := by decide +kernel
theorem dX7_balance_34 : decode cX7_balance 34 = .ok (.bipush 14, 2) := by decide +kernel
theorem dX7_balance_36 : decode cX7_balance 36 = .ok (.iaload, 1) := by decide +kernel
theorem dX7_balance_37 : decode cX7_balance 37 = .ok (.if_icmp .ge 51, 3) := by decide +kernel
theorem dX7_balance_40 : decode cX7_balance 40 = .ok (.aload_n 0, 1) := by decide +kernel
theorem dX7_balance_41 : decode cX7_balance 41 = .ok (.iload_n 3, 1) := by decide +kernel
theorem dX7_balance_42 : decode cX7_balance 42 = .ok (.iconst 5, 1) := by decide +kernel
theorem dX7_balance_43 : decode cX7_balance 43 = .ok (.invokevirtual 78, 3) := by decide +kernel
theorem dX7_balance_46 : decode cX7_balance 46 = .ok (.iload_n 1, 1) := by decide +kernel
theorem dX7_balance_47 : decode cX7_balance 47 = .ok (.if_icmp .le 12, 3) := by decide +kernel
theorem dX7_balance_50 : decode cX7_balance 50 = .ok (.aload_n 0, 1) := by decide +kernel
theorem dX7_balance_51 : decode cX7_balance 51 = .ok (.iload_n 3, 1) := by decide +kernel
theorem dX7_balance_52 : decode cX7_balance 52 = .ok (.iconst 5, 1) := by decide +kernel
theorem dX7_balance_53 : decode cX7_balance 53 = .ok (.invokevirtual 78, 3) := by decide +kernel
theorem dX7_balance_56 : decode cX7_balance 56 = .ok (.goto 4, 3) := by decide +kernel
theorem dX7_balance_59 : decode cX7_balance 59 = .ok (.iload_n 1, 1) := by decide +kernel
theorem dX7_balance_60 : decode cX7_balance 60 = .ok (.istore_n 1, 1) := by decide +kernel
theorem dX7_balance_61 : decode cX7_balance 61 = .ok (.aload_n 0, 1) := by decide +kernel
theorem dX7_balance_62 : decode cX7_balance 62 = .ok (.iload_n 3, 1) := by decide +kernel
theorem dX7_balance_63 : decode cX7_balance 63 = .ok (.iconst 5, 1) := by decide +kernel
theorem dX7_balance_64 : decode cX7_balance 64 = .ok (.invokevirtual 78, 3) := by decide +kernel
theorem dX7_balance_67 : decode cX7_balance 67 = .ok (.iload_n 2, 1) := by decide +kernel
theorem dX7_balance_68 : decode cX7_balance 68 = .ok (.if_icmp .ge 12, 3) := by decide +kernel
theorem dX7_balance_71 : decode cX7_balance 71 = .ok (.aload_n 0, 1) := by decide +kernel
theorem dX7_balance_72 : decode cX7_balance 72 = .ok (.iload_n 3, 1) := by decide +kernel
theorem dX7_balance_73 : decode cX7_balance 73 = .ok (.iconst 5, 1) := by decide +kernel
theorem dX7_balance_74 : decode cX7_balance 74 = .ok (.invokevirtual 78, 3) := by decide +kernel
theorem dX7_balance_77 : decode cX7_balance 77 = .ok (.goto 4, 3) := by decide +kernel
theorem dX7_balance_80 : decode cX7_balance 80 = .ok (.iload_n 2, 1) := by decide +kernel
theorem dX7_balance_81 : decode cX7_balance 81 = .ok (.istore_n 2, 1) := by decide +kernel
theorem dX7_balance_82 : decode cX7_balance 82 = .ok (.iinc 3 1, 3) := by decide +kernel
theorem dX7_balance_85 : decode cX7_balance 85 = .ok (.goto (-56), 3) := by decide +kernel
theorem dX7_balance_88 : decode cX7_balance 88 = .ok (.iload_n 1, 1) := by decide +kernel
theorem dX7_balance_89 : decode cX7_balance 89 = .ok (.iload_n 2, 1) := by decide +kernel
theorem dX7_balance_90 : decode cX7_balance 90 = .ok (.isub, 1) := by decide +kernel
theorem dX7_balance_91 : decode cX7_balance 91 = .ok (.ireturn, 1) := by decide +kernel
theorem dX7_isZone_0 : decode cX7_isZone 0 = .ok (.iload_n 1, 1) := by decide +kernel
theorem dX7_isZone_1 : decode cX7_isZone 1 = .ok (.i2l, 1) := by decide +kernel
theorem dX7_isZone_2 : decode cX7_isZone 2 = .ok (.lconst 0, 1) := by decide +kernel
theorem dX7_isZone_3 : decode cX7_isZone 3 = .ok (.aload_n 0, 1) := by decide +kernel
theorem dX7_isZone_4 : decode cX7_isZone 4 = .ok (.getfield 7, 3) := by decide +kernel
theorem dX7_isZone_7 : decode cX7_isZone 7 = .ok (.bipush 15, 2) := by decide +kernel
theorem dX7_isZone_9 : decode cX7_isZone 9 = .ok (.iaload, 1) := by decide +kernel
theorem dX7_isZone_10 : decode cX7_isZone 10 = .ok (.i2l, 1) := by decide +kernel
theorem dX7_isZone_11 : decode cX7_isZone 11 = .ok (.lconst 1, 1) := by decide +kernel
theorem dX7_isZone_12 : decode cX7_isZone 12 = .ok (.lsub, 1) := by decide +kernel
theorem dX7_isZone_13 : decode cX7_isZone 13 = .ok (.invokestatic 30, 3) := by decide +kernel
theorem dX7_isZone_16 : decode cX7_isZone 16 = .ok (.ireturn, 1) := by decide +kernel
theorem dX7_isOpen_0 : decode cX7_isOpen 0 = .ok (.aload_n 0, 1) := by decide +kernel
theorem dX7_isOpen_1 : decode cX7_isOpen 1 = .ok (.getfield 7, 3) := by decide +kernel
theorem dX7_isOpen_4 : decode cX7_isOpen 4 = .ok (.bipush 87, 2) := by decide +kernel
theorem dX7_isOpen_6 : decode cX7_isOpen 6 = .ok (.iconst 2, 1) := by decide +kernel
theorem dX7_isOpen_7 : decode cX7_isOpen 7 = .ok (.iload_n 1, 1) := by decide +kernel
theorem dX7_isOpen_8 : decode cX7_isOpen 8 = .ok (.imul, 1) := by decide +kernel
theorem dX7_isOpen_9 : decode cX7_isOpen 9 = .ok (.iadd, 1) := by decide +kernel
theorem dX7_isOpen_10 : decode cX7_isOpen 10 = .ok (.iconst 1, 1) := by decide +kernel
theorem dX7_isOpen_11 : decode cX7_isOpen 11 = .ok (.iadd, 1) := by decide +kernel
theorem dX7_isOpen_12 : decode cX7_isOpen 12 = .ok (.iaload, 1) := by decide +kernel
theorem dX7_isOpen_13 : decode cX7_isOpen 13 = .ok (.iconst 1, 1) := by decide +kernel
theorem dX7_isOpen_14 : decode cX7_isOpen 14 = .ok (.if_icmp .ne 7, 3) := by decide +kernel
theorem dX7_isOpen_17 : decode cX7_isOpen 17 = .ok (.iconst 1, 1) := by decide +kernel
theorem dX7_isOpen_18 : decode cX7_isOpen 18 = .ok (.goto 4, 3) := by decide +kernel
theorem dX7_isOpen_21 : decode cX7_isOpen 21 = .ok (.iconst 0, 1) := by decide +kernel
theorem dX7_isOpen_22 : decode cX7_isOpen 22 = .ok (.ireturn, 1) := by decide +kernel
theorem dX7_zone_0 : decode cX7_zone 0 = .ok (.iload_n 1, 1) := by decide +kernel
theorem dX7_zone_1 : decode cX7_zone 1 = .ok (.i2l, 1) := by decide +kernel
theorem dX7_zone_2 : decode cX7_zone 2 = .ok (.lconst 1, 1) := by decide +kernel
theorem dX7_zone_3 : decode cX7_zone 3 = .ok (.ldc2_w 40, 3) := by decide +kernel
theorem dX7_zone_6 : decode cX7_zone 6 = .ok (.invokestatic 30, 3) := by decide +kernel
theorem dX7_zone_9 : decode cX7_zone 9 = .ok (.ifCond .ne 6, 3) := by decide +kernel
theorem dX7_zone_12 : decode cX7_zone 12 = .ok (.ldc 62, 2) := by decide +kernel
theorem dX7_zone_14 : decode cX7_zone 14 = .ok (.ireturn, 1) := by decide +kernel
theorem dX7_zone_15 : decode cX7_zone 15 = .ok (.aload_n 0, 1) := by decide +kernel
theorem dX7_zone_16 : decode cX7_zone 16 = .ok (.getfield 7, 3) := by decide +kernel
theorem dX7_zone_19 : decode cX7_zone 19 = .ok (.bipush 15, 2) := by decide +kernel
theorem dX7_zone_21 : decode cX7_zone 21 = .ok (.iaload, 1) := by decide +kernel
theorem dX7_zone_22 : decode cX7_zone 22 = .ok (.bipush 8, 2) := by decide +kernel
theorem dX7_zone_24 : decode cX7_zone 24 = .ok (.if_icmp .ne 6, 3) := by decide +kernel
theorem dX7_zone_27 : decode cX7_zone 27 = .ok (.ldc 73, 2) := by decide +kernel
theorem dX7_zone_29 : decode cX7_zone 29 = .ok (.ireturn, 1) := by decide +kernel
theorem dX7_zone_30 : decode cX7_zone 30 = .ok (.aload_n 0, 1) := by decide +kernel
theorem dX7_zone_31 : decode cX7_zone 31 = .ok (.invokevirtual 63, 3) := by decide +kernel
theorem dX7_zone_34 : decode cX7_zone 34 = .ok (.aload_n 0, 1) := by decide +kernel
theorem dX7_zone_35 : decode cX7_zone 35 = .ok (.getfield 7, 3) := by decide +kernel
theorem dX7_zone_38 : decode cX7_zone 38 = .ok (.bipush 15, 2) := by decide +kernel
theorem dX7_zone_40 : decode cX7_zone 40 = .ok (.iaload, 1) := by decide +kernel
