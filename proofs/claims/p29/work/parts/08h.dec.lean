/-! decode rows -/
theorem dL_cell_0 : decode cL_cell 0 = .ok (.iload_n 1, 1) := by decide +kernel
theorem dL_cell_1 : decode cL_cell 1 = .ok (.aload_n 0, 1) := by decide +kernel
theorem dL_cell_2 : decode cL_cell 2 = .ok (.arraylength, 1) := by decide +kernel
theorem dL_cell_3 : decode cL_cell 3 = .ok (.if_icmp .ge 9, 3) := by decide +kernel
theorem dL_cell_6 : decode cL_cell 6 = .ok (.aload_n 0, 1) := by decide +kernel
theorem dL_cell_7 : decode cL_cell 7 = .ok (.iload_n 1, 1) := by decide +kernel
theorem dL_cell_8 : decode cL_cell 8 = .ok (.iaload, 1) := by decide +kernel
theorem dL_cell_9 : decode cL_cell 9 = .ok (.goto 11, 3) := by decide +kernel
theorem dL_cell_12 : decode cL_cell 12 = .ok (.ldc 7, 2) := by decide +kernel
theorem dL_cell_14 : decode cL_cell 14 = .ok (.iload_n 1, 1) := by decide +kernel
theorem dL_cell_15 : decode cL_cell 15 = .ok (.sipush 449, 3) := by decide +kernel
theorem dL_cell_18 : decode cL_cell 18 = .ok (.iadd, 1) := by decide +kernel
theorem dL_cell_19 : decode cL_cell 19 = .ok (.imul, 1) := by decide +kernel
theorem dL_cell_20 : decode cL_cell 20 = .ok (.ireturn, 1) := by decide +kernel
theorem dL_up_0 : decode cL_up 0 = .ok (.iload_n 0, 1) := by decide +kernel
theorem dL_up_1 : decode cL_up 1 = .ok (.ldc 8, 2) := by decide +kernel
theorem dL_up_3 : decode cL_up 3 = .ok (.iand, 1) := by decide +kernel
theorem dL_up_4 : decode cL_up 4 = .ok (.iload_n 1, 1) := by decide +kernel
theorem dL_up_5 : decode cL_up 5 = .ok (.irem, 1) := by decide +kernel
theorem dL_up_6 : decode cL_up 6 = .ok (.ireturn, 1) := by decide +kernel
theorem dL_isStep_0 : decode cL_isStep 0 = .ok (.iload_n 2, 1) := by decide +kernel
theorem dL_isStep_1 : decode cL_isStep 1 = .ok (.iconst 4, 1) := by decide +kernel
theorem dL_isStep_2 : decode cL_isStep 2 = .ok (.ishr, 1) := by decide +kernel
theorem dL_isStep_3 : decode cL_isStep 3 = .ok (.istore_n 3, 1) := by decide +kernel
theorem dL_isStep_4 : decode cL_isStep 4 = .ok (.iload_n 2, 1) := by decide +kernel
theorem dL_isStep_5 : decode cL_isStep 5 = .ok (.bipush 9, 2) := by decide +kernel
theorem dL_isStep_7 : decode cL_isStep 7 = .ok (.invokestatic 9, 3) := by decide +kernel
theorem dL_isStep_10 : decode cL_isStep 10 = .ok (.tableswitch 293 0 5 #[38, 83, 114, 157, 188, 205], 38) := by decide +kernel
theorem dL_isStep_48 : decode cL_isStep 48 = .ok (.iload_n 3, 1) := by decide +kernel
theorem dL_isStep_49 : decode cL_isStep 49 = .ok (.iconst 3, 1) := by decide +kernel
theorem dL_isStep_50 : decode cL_isStep 50 = .ok (.invokestatic 9, 3) := by decide +kernel
theorem dL_isStep_53 : decode cL_isStep 53 = .ok (.istore 4, 2) := by decide +kernel
theorem dL_isStep_55 : decode cL_isStep 55 = .ok (.iconst 1, 1) := by decide +kernel
theorem dL_isStep_56 : decode cL_isStep 56 = .ok (.aload_n 0, 1) := by decide +kernel
theorem dL_isStep_57 : decode cL_isStep 57 = .ok (.iload 4, 2) := by decide +kernel
theorem dL_isStep_59 : decode cL_isStep 59 = .ok (.iconst 1, 1) := by decide +kernel
theorem dL_isStep_60 : decode cL_isStep 60 = .ok (.invokevirtual 15, 3) := by decide +kernel
theorem dL_isStep_63 : decode cL_isStep 63 = .ok (.isub, 1) := by decide +kernel
theorem dL_isStep_64 : decode cL_isStep 64 = .ok (.istore 5, 2) := by decide +kernel
theorem dL_isStep_66 : decode cL_isStep 66 = .ok (.aload_n 0, 1) := by decide +kernel
theorem dL_isStep_67 : decode cL_isStep 67 = .ok (.iload 4, 2) := by decide +kernel
theorem dL_isStep_69 : decode cL_isStep 69 = .ok (.iload 5, 2) := by decide +kernel
theorem dL_isStep_71 : decode cL_isStep 71 = .ok (.invokevirtual 20, 3) := by decide +kernel
theorem dL_isStep_74 : decode cL_isStep 74 = .ok (.aload_n 1, 1) := by decide +kernel
theorem dL_isStep_75 : decode cL_isStep 75 = .ok (.iconst 2, 1) := by decide +kernel
theorem dL_isStep_76 : decode cL_isStep 76 = .ok (.iload 4, 2) := by decide +kernel
theorem dL_isStep_78 : decode cL_isStep 78 = .ok (.isub, 1) := by decide +kernel
theorem dL_isStep_79 : decode cL_isStep 79 = .ok (.iload 5, 2) := by decide +kernel
theorem dL_isStep_81 : decode cL_isStep 81 = .ok (.invokevirtual 20, 3) := by decide +kernel
theorem dL_isStep_84 : decode cL_isStep 84 = .ok (.if_icmp .ne 7, 3) := by decide +kernel
theorem dL_isStep_87 : decode cL_isStep 87 = .ok (.iconst 1, 1) := by decide +kernel
theorem dL_isStep_88 : decode cL_isStep 88 = .ok (.goto 4, 3) := by decide +kernel
theorem dL_isStep_91 : decode cL_isStep 91 = .ok (.iconst 0, 1) := by decide +kernel
theorem dL_isStep_92 : decode cL_isStep 92 = .ok (.ireturn, 1) := by decide +kernel
theorem dL_isStep_93 : decode cL_isStep 93 = .ok (.aload_n 0, 1) := by decide +kernel
theorem dL_isStep_94 : decode cL_isStep 94 = .ok (.iload_n 3, 1) := by decide +kernel
theorem dL_isStep_95 : decode cL_isStep 95 = .ok (.sipush 200, 3) := by decide +kernel
theorem dL_isStep_98 : decode cL_isStep 98 = .ok (.invokestatic 9, 3) := by decide +kernel
theorem dL_isStep_101 : decode cL_isStep 101 = .ok (.invokevirtual 23, 3) := by decide +kernel
theorem dL_isStep_104 : decode cL_isStep 104 = .ok (.aload_n 1, 1) := by decide +kernel
theorem dL_isStep_105 : decode cL_isStep 105 = .ok (.iload_n 3, 1) := by decide +kernel
theorem dL_isStep_106 : decode cL_isStep 106 = .ok (.sipush 200, 3) := by decide +kernel
theorem dL_isStep_109 : decode cL_isStep 109 = .ok (.invokestatic 9, 3) := by decide +kernel
theorem dL_isStep_112 : decode cL_isStep 112 = .ok (.invokevirtual 23, 3) := by decide +kernel
theorem dL_isStep_115 : decode cL_isStep 115 = .ok (.if_icmp .ne 7, 3) := by decide +kernel
theorem dL_isStep_118 : decode cL_isStep 118 = .ok (.iconst 1, 1) := by decide +kernel
theorem dL_isStep_119 : decode cL_isStep 119 = .ok (.goto 4, 3) := by decide +kernel
theorem dL_isStep_122 : decode cL_isStep 122 = .ok (.iconst 0, 1) := by decide +kernel
theorem dL_isStep_123 : decode cL_isStep 123 = .ok (.ireturn, 1) := by decide +kernel
theorem dL_isStep_124 : decode cL_isStep 124 = .ok (.iload_n 3, 1) := by decide +kernel
theorem dL_isStep_125 : decode cL_isStep 125 = .ok (.iconst 3, 1) := by decide +kernel
theorem dL_isStep_126 : decode cL_isStep 126 = .ok (.invokestatic 9, 3) := by decide +kernel
theorem dL_isStep_129 : decode cL_isStep 129 = .ok (.istore 4, 2) := by decide +kernel
theorem dL_isStep_131 : decode cL_isStep 131 = .ok (.iconst 1, 1) := by decide +kernel
theorem dL_isStep_132 : decode cL_isStep 132 = .ok (.aload_n 0, 1) := by decide +kernel
theorem dL_isStep_133 : decode cL_isStep 133 = .ok (.iload 4, 2) := by decide +kernel
theorem dL_isStep_135 : decode cL_isStep 135 = .ok (.iconst 3, 1) := by decide +kernel
theorem dL_isStep_136 : decode cL_isStep 136 = .ok (.invokevirtual 27, 3) := by decide +kernel
theorem dL_isStep_139 : decode cL_isStep 139 = .ok (.isub, 1) := by decide +kernel
theorem dL_isStep_140 : decode cL_isStep 140 = .ok (.istore 5, 2) := by decide +kernel
theorem dL_isStep_142 : decode cL_isStep 142 = .ok (.aload_n 0, 1) := by decide +kernel
theorem dL_isStep_143 : decode cL_isStep 143 = .ok (.iload 4, 2) := by decide +kernel
theorem dL_isStep_145 : decode cL_isStep 145 = .ok (.iload 5, 2) := by decide +kernel
theorem dL_isStep_147 : decode cL_isStep 147 = .ok (.invokevirtual 30, 3) := by decide +kernel
theorem dL_isStep_150 : decode cL_isStep 150 = .ok (.aload_n 1, 1) := by decide +kernel
theorem dL_isStep_151 : decode cL_isStep 151 = .ok (.iload 4, 2) := by decide +kernel
theorem dL_isStep_153 : decode cL_isStep 153 = .ok (.iload 5, 2) := by decide +kernel
theorem dL_isStep_155 : decode cL_isStep 155 = .ok (.invokevirtual 30, 3) := by decide +kernel
theorem dL_isStep_158 : decode cL_isStep 158 = .ok (.if_icmp .ne 7, 3) := by decide +kernel
theorem dL_isStep_161 : decode cL_isStep 161 = .ok (.iconst 1, 1) := by decide +kernel
theorem dL_isStep_162 : decode cL_isStep 162 = .ok (.goto 4, 3) := by decide +kernel
theorem dL_isStep_165 : decode cL_isStep 165 = .ok (.iconst 0, 1) := by decide +kernel
theorem dL_isStep_166 : decode cL_isStep 166 = .ok (.ireturn, 1) := by decide +kernel
theorem dL_isStep_167 : decode cL_isStep 167 = .ok (.aload_n 0, 1) := by decide +kernel
theorem dL_isStep_168 : decode cL_isStep 168 = .ok (.iload_n 3, 1) := by decide +kernel
theorem dL_isStep_169 : decode cL_isStep 169 = .ok (.sipush 20001, 3) := by decide +kernel
theorem dL_isStep_172 : decode cL_isStep 172 = .ok (.invokestatic 9, 3) := by decide +kernel
theorem dL_isStep_175 : decode cL_isStep 175 = .ok (.invokevirtual 33, 3) := by decide +kernel
theorem dL_isStep_178 : decode cL_isStep 178 = .ok (.aload_n 1, 1) := by decide +kernel
theorem dL_isStep_179 : decode cL_isStep 179 = .ok (.iload_n 3, 1) := by decide +kernel
theorem dL_isStep_180 : decode cL_isStep 180 = .ok (.sipush 20001, 3) := by decide +kernel
theorem dL_isStep_183 : decode cL_isStep 183 = .ok (.invokestatic 9, 3) := by decide +kernel
theorem dL_isStep_186 : decode cL_isStep 186 = .ok (.invokevirtual 33, 3) := by decide +kernel
theorem dL_isStep_189 : decode cL_isStep 189 = .ok (.if_icmp .ne 7, 3) := by decide +kernel
theorem dL_isStep_192 : decode cL_isStep 192 = .ok (.iconst 1, 1) := by decide +kernel
theorem dL_isStep_193 : decode cL_isStep 193 = .ok (.goto 4, 3) := by decide +kernel
theorem dL_isStep_196 : decode cL_isStep 196 = .ok (.iconst 0, 1) := by decide +kernel
theorem dL_isStep_197 : decode cL_isStep 197 = .ok (.ireturn, 1) := by decide +kernel
theorem dL_isStep_198 : decode cL_isStep 198 = .ok (.aload_n 0, 1) := by decide +kernel
theorem dL_isStep_199 : decode cL_isStep 199 = .ok (.invokevirtual 36, 3) := by decide +kernel
theorem dL_isStep_202 : decode cL_isStep 202 = .ok (.aload_n 1, 1) := by decide +kernel
theorem dL_isStep_203 : decode cL_isStep 203 = .ok (.invokevirtual 36, 3) := by decide +kernel
theorem dL_isStep_206 : decode cL_isStep 206 = .ok (.if_icmp .ne 7, 3) := by decide +kernel
theorem dL_isStep_209 : decode cL_isStep 209 = .ok (.iconst 1, 1) := by decide +kernel
theorem dL_isStep_210 : decode cL_isStep 210 = .ok (.goto 4, 3) := by decide +kernel
theorem dL_isStep_213 : decode cL_isStep 213 = .ok (.iconst 0, 1) := by decide +kernel
theorem dL_isStep_214 : decode cL_isStep 214 = .ok (.ireturn, 1) := by decide +kernel
theorem dL_isStep_215 : decode cL_isStep 215 = .ok (.iload_n 3, 1) := by decide +kernel
theorem dL_isStep_216 : decode cL_isStep 216 = .ok (.bipush 10, 2) := by decide +kernel
theorem dL_isStep_218 : decode cL_isStep 218 = .ok (.invokestatic 9, 3) := by decide +kernel
theorem dL_isStep_221 : decode cL_isStep 221 = .ok (.istore 4, 2) := by decide +kernel
theorem dL_isStep_223 : decode cL_isStep 223 = .ok (.iload 4, 2) := by decide +kernel
theorem dL_isStep_225 : decode cL_isStep 225 = .ok (.ifCond .ne 19, 3) := by decide +kernel
theorem dL_isStep_228 : decode cL_isStep 228 = .ok (.sipush 200, 3) := by decide +kernel
theorem dL_isStep_231 : decode cL_isStep 231 = .ok (.iload_n 3, 1) := by decide +kernel
theorem dL_isStep_232 : decode cL_isStep 232 = .ok (.iconst 4, 1) := by decide +kernel
theorem dL_isStep_233 : decode cL_isStep 233 = .ok (.ishr, 1) := by decide +kernel
theorem dL_isStep_234 : decode cL_isStep 234 = .ok (.sipush 500, 3) := by decide +kernel
theorem dL_isStep_237 : decode cL_isStep 237 = .ok (.invokestatic 9, 3) := by decide +kernel
theorem dL_isStep_240 : decode cL_isStep 240 = .ok (.iadd, 1) := by decide +kernel
theorem dL_isStep_241 : decode cL_isStep 241 = .ok (.goto 35, 3) := by decide +kernel
theorem dL_isStep_244 : decode cL_isStep 244 = .ok (.iload 4, 2) := by decide +kernel
theorem dL_isStep_246 : decode cL_isStep 246 = .ok (.iconst 4, 1) := by decide +kernel
theorem dL_isStep_247 : decode cL_isStep 247 = .ok (.if_icmp .ne 19, 3) := by decide +kernel
theorem dL_isStep_250 : decode cL_isStep 250 = .ok (.sipush 300, 3) := by decide +kernel
theorem dL_isStep_253 : decode cL_isStep 253 = .ok (.iload_n 3, 1) := by decide +kernel
theorem dL_isStep_254 : decode cL_isStep 254 = .ok (.iconst 4, 1) := by decide +kernel
theorem dL_isStep_255 : decode cL_isStep 255 = .ok (.ishr, 1) := by decide +kernel
theorem dL_isStep_256 : decode cL_isStep 256 = .ok (.sipush 600, 3) := by decide +kernel
theorem dL_isStep_259 : decode cL_isStep 259 = .ok (.invokestatic 9, 3) := by decide +kernel
theorem dL_isStep_262 : decode cL_isStep 262 = .ok (.iadd, 1) := by decide +kernel
theorem dL_isStep_263 : decode cL_isStep 263 = .ok (.goto 13, 3) := by decide +kernel
theorem dL_isStep_266 : decode cL_isStep 266 = .ok (.iconst 1, 1) := by decide +kernel
theorem dL_isStep_267 : decode cL_isStep 267 = .ok (.iload_n 3, 1) := by decide +kernel
theorem dL_isStep_268 : decode cL_isStep 268 = .ok (.iconst 4, 1) := by decide +kernel
theorem dL_isStep_269 : decode cL_isStep 269 = .ok (.ishr, 1) := by decide +kernel
theorem dL_isStep_270 : decode cL_isStep 270 = .ok (.bipush 50, 2) := by decide +kernel
theorem dL_isStep_272 : decode cL_isStep 272 = .ok (.invokestatic 9, 3) := by decide +kernel
theorem dL_isStep_275 : decode cL_isStep 275 = .ok (.iadd, 1) := by decide +kernel
theorem dL_isStep_276 : decode cL_isStep 276 = .ok (.istore 5, 2) := by decide +kernel
theorem dL_isStep_278 : decode cL_isStep 278 = .ok (.aload_n 0, 1) := by decide +kernel
theorem dL_isStep_279 : decode cL_isStep 279 = .ok (.iload 4, 2) := by decide +kernel
theorem dL_isStep_281 : decode cL_isStep 281 = .ok (.iload 5, 2) := by decide +kernel
theorem dL_isStep_283 : decode cL_isStep 283 = .ok (.invokevirtual 40, 3) := by decide +kernel
theorem dL_isStep_286 : decode cL_isStep 286 = .ok (.aload_n 1, 1) := by decide +kernel
theorem dL_isStep_287 : decode cL_isStep 287 = .ok (.iload 4, 2) := by decide +kernel
theorem dL_isStep_289 : decode cL_isStep 289 = .ok (.iload 5, 2) := by decide +kernel
theorem dL_isStep_291 : decode cL_isStep 291 = .ok (.invokevirtual 40, 3) := by decide +kernel
theorem dL_isStep_294 : decode cL_isStep 294 = .ok (.if_icmp .ne 7, 3) := by decide +kernel
theorem dL_isStep_297 : decode cL_isStep 297 = .ok (.iconst 1, 1) := by decide +kernel
theorem dL_isStep_298 : decode cL_isStep 298 = .ok (.goto 4, 3) := by decide +kernel
theorem dL_isStep_301 : decode cL_isStep 301 = .ok (.iconst 0, 1) := by decide +kernel
theorem dL_isStep_302 : decode cL_isStep 302 = .ok (.ireturn, 1) := by decide +kernel
theorem dL_isStep_303 : decode cL_isStep 303 = .ok (.aload_n 0, 1) := by decide +kernel
theorem dL_isStep_304 : decode cL_isStep 304 = .ok (.iconst 1, 1) := by decide +kernel
theorem dL_isStep_305 : decode cL_isStep 305 = .ok (.iload_n 3, 1) := by decide +kernel
theorem dL_isStep_306 : decode cL_isStep 306 = .ok (.bipush 50, 2) := by decide +kernel
theorem dL_isStep_308 : decode cL_isStep 308 = .ok (.invokestatic 9, 3) := by decide +kernel
theorem dL_isStep_311 : decode cL_isStep 311 = .ok (.iadd, 1) := by decide +kernel
theorem dL_isStep_312 : decode cL_isStep 312 = .ok (.invokevirtual 43, 3) := by decide +kernel
theorem dL_isStep_315 : decode cL_isStep 315 = .ok (.aload_n 1, 1) := by decide +kernel
theorem dL_isStep_316 : decode cL_isStep 316 = .ok (.iconst 1, 1) := by decide +kernel
theorem dL_isStep_317 : decode cL_isStep 317 = .ok (.iload_n 3, 1) := by decide +kernel
theorem dL_isStep_318 : decode cL_isStep 318 = .ok (.bipush 50, 2) := by decide +kernel
theorem dL_isStep_320 : decode cL_isStep 320 = .ok (.invokestatic 9, 3) := by decide +kernel
theorem dL_isStep_323 : decode cL_isStep 323 = .ok (.iadd, 1) := by decide +kernel
theorem dL_isStep_324 : decode cL_isStep 324 = .ok (.invokevirtual 43, 3) := by decide +kernel
theorem dL_isStep_327 : decode cL_isStep 327 = .ok (.if_icmp .ne 7, 3) := by decide +kernel
theorem dL_isStep_330 : decode cL_isStep 330 = .ok (.iconst 1, 1) := by decide +kernel
theorem dL_isStep_331 : decode cL_isStep 331 = .ok (.goto 4, 3) := by decide +kernel
theorem dL_isStep_334 : decode cL_isStep 334 = .ok (.iconst 0, 1) := by decide +kernel
theorem dL_isStep_335 : decode cL_isStep 335 = .ok (.ireturn, 1) := by decide +kernel
theorem dL_areAlike_0 : decode cL_areAlike 0 = .ok (.aload_n 0, 1) := by decide +kernel
theorem dL_areAlike_1 : decode cL_areAlike 1 = .ok (.invokevirtual 46, 3) := by decide +kernel
theorem dL_areAlike_4 : decode cL_areAlike 4 = .ok (.aload_n 1, 1) := by decide +kernel
theorem dL_areAlike_5 : decode cL_areAlike 5 = .ok (.invokevirtual 46, 3) := by decide +kernel
theorem dL_areAlike_8 : decode cL_areAlike 8 = .ok (.if_icmp .ne 37, 3) := by decide +kernel
theorem dL_areAlike_11 : decode cL_areAlike 11 = .ok (.aload_n 0, 1) := by decide +kernel
theorem dL_areAlike_12 : decode cL_areAlike 12 = .ok (.bipush 30, 2) := by decide +kernel
theorem dL_areAlike_14 : decode cL_areAlike 14 = .ok (.iconst 0, 1) := by decide +kernel
theorem dL_areAlike_15 : decode cL_areAlike 15 = .ok (.invokevirtual 49, 3) := by decide +kernel
theorem dL_areAlike_18 : decode cL_areAlike 18 = .ok (.aload_n 1, 1) := by decide +kernel
theorem dL_areAlike_19 : decode cL_areAlike 19 = .ok (.bipush 30, 2) := by decide +kernel
theorem dL_areAlike_21 : decode cL_areAlike 21 = .ok (.iconst 0, 1) := by decide +kernel
theorem dL_areAlike_22 : decode cL_areAlike 22 = .ok (.invokevirtual 49, 3) := by decide +kernel
theorem dL_areAlike_25 : decode cL_areAlike 25 = .ok (.if_icmp .ne 20, 3) := by decide +kernel
theorem dL_areAlike_28 : decode cL_areAlike 28 = .ok (.aload_n 0, 1) := by decide +kernel
theorem dL_areAlike_29 : decode cL_areAlike 29 = .ok (.iconst 0, 1) := by decide +kernel
theorem dL_areAlike_30 : decode cL_areAlike 30 = .ok (.invokevirtual 52, 3) := by decide +kernel
theorem dL_areAlike_33 : decode cL_areAlike 33 = .ok (.aload_n 1, 1) := by decide +kernel
theorem dL_areAlike_34 : decode cL_areAlike 34 = .ok (.iconst 0, 1) := by decide +kernel
theorem dL_areAlike_35 : decode cL_areAlike 35 = .ok (.invokevirtual 52, 3) := by decide +kernel
theorem dL_areAlike_38 : decode cL_areAlike 38 = .ok (.if_icmp .ne 7, 3) := by decide +kernel
theorem dL_areAlike_41 : decode cL_areAlike 41 = .ok (.iconst 1, 1) := by decide +kernel
theorem dL_areAlike_42 : decode cL_areAlike 42 = .ok (.goto 4, 3) := by decide +kernel
theorem dL_areAlike_45 : decode cL_areAlike 45 = .ok (.iconst 0, 1) := by decide +kernel
theorem dL_areAlike_46 : decode cL_areAlike 46 = .ok (.istore_n 2, 1) := by decide +kernel
theorem dL_areAlike_47 : decode cL_areAlike 47 = .ok (.iconst 0, 1) := by decide +kernel
theorem dL_areAlike_48 : decode cL_areAlike 48 = .ok (.istore_n 3, 1) := by decide +kernel
theorem dL_areAlike_49 : decode cL_areAlike 49 = .ok (.iload_n 3, 1) := by decide +kernel
theorem dL_areAlike_50 : decode cL_areAlike 50 = .ok (.bipush 15, 2) := by decide +kernel
theorem dL_areAlike_52 : decode cL_areAlike 52 = .ok (.if_icmp .ge 32, 3) := by decide +kernel
theorem dL_areAlike_55 : decode cL_areAlike 55 = .ok (.iload_n 2, 1) := by decide +kernel
theorem dL_areAlike_56 : decode cL_areAlike 56 = .ok (.ifCond .eq 20, 3) := by decide +kernel
theorem dL_areAlike_59 : decode cL_areAlike 59 = .ok (.aload_n 0, 1) := by decide +kernel
theorem dL_areAlike_60 : decode cL_areAlike 60 = .ok (.iload_n 3, 1) := by decide +kernel
theorem dL_areAlike_61 : decode cL_areAlike 61 = .ok (.invokevirtual 55, 3) := by decide +kernel
theorem dL_areAlike_64 : decode cL_areAlike 64 = .ok (.aload_n 1, 1) := by decide +kernel
theorem dL_areAlike_65 : decode cL_areAlike 65 = .ok (.iload_n 3, 1) := by decide +kernel
theorem dL_areAlike_66 : decode cL_areAlike 66 = .ok (.invokevirtual 55, 3) := by decide +kernel
theorem dL_areAlike_69 : decode cL_areAlike 69 = .ok (.if_icmp .ne 7, 3) := by decide +kernel
theorem dL_areAlike_72 : decode cL_areAlike 72 = .ok (.iconst 1, 1) := by decide +kernel
theorem dL_areAlike_73 : decode cL_areAlike 73 = .ok (.goto 4, 3) := by decide +kernel
theorem dL_areAlike_76 : decode cL_areAlike 76 = .ok (.iconst 0, 1) := by decide +kernel
theorem dL_areAlike_77 : decode cL_areAlike 77 = .ok (.istore_n 2, 1) := by decide +kernel
theorem dL_areAlike_78 : decode cL_areAlike 78 = .ok (.iinc 3 1, 3) := by decide +kernel
theorem dL_areAlike_81 : decode cL_areAlike 81 = .ok (.goto (-32), 3) := by decide +kernel
theorem dL_areAlike_84 : decode cL_areAlike 84 = .ok (.iconst 0, 1) := by decide +kernel
theorem dL_areAlike_85 : decode cL_areAlike 85 = .ok (.istore_n 3, 1) := by decide +kernel
theorem dL_areAlike_86 : decode cL_areAlike 86 = .ok (.iload_n 3, 1) := by decide +kernel
theorem dL_areAlike_87 : decode cL_areAlike 87 = .ok (.iconst 3, 1) := by decide +kernel
theorem dL_areAlike_88 : decode cL_areAlike 88 = .ok (.if_icmp .ge 77, 3) := by decide +kernel
theorem dL_areAlike_91 : decode cL_areAlike 91 = .ok (.iconst 0, 1) := by decide +kernel
theorem dL_areAlike_92 : decode cL_areAlike 92 = .ok (.istore 4, 2) := by decide +kernel
theorem dL_areAlike_94 : decode cL_areAlike 94 = .ok (.iload 4, 2) := by decide +kernel
theorem dL_areAlike_96 : decode cL_areAlike 96 = .ok (.bipush 10, 2) := by decide +kernel
theorem dL_areAlike_98 : decode cL_areAlike 98 = .ok (.if_icmp .ge 61, 3) := by decide +kernel
theorem dL_areAlike_101 : decode cL_areAlike 101 = .ok (.iload_n 2, 1) := by decide +kernel
theorem dL_areAlike_102 : decode cL_areAlike 102 = .ok (.ifCond .eq 49, 3) := by decide +kernel
theorem dL_areAlike_105 : decode cL_areAlike 105 = .ok (.aload_n 0, 1) := by decide +kernel
theorem dL_areAlike_106 : decode cL_areAlike 106 = .ok (.iload_n 3, 1) := by decide +kernel
theorem dL_areAlike_107 : decode cL_areAlike 107 = .ok (.iload 4, 2) := by decide +kernel
theorem dL_areAlike_109 : decode cL_areAlike 109 = .ok (.invokevirtual 27, 3) := by decide +kernel
theorem dL_areAlike_112 : decode cL_areAlike 112 = .ok (.aload_n 1, 1) := by decide +kernel
theorem dL_areAlike_113 : decode cL_areAlike 113 = .ok (.iload_n 3, 1) := by decide +kernel
theorem dL_areAlike_114 : decode cL_areAlike 114 = .ok (.iload 4, 2) := by decide +kernel
theorem dL_areAlike_116 : decode cL_areAlike 116 = .ok (.invokevirtual 27, 3) := by decide +kernel
theorem dL_areAlike_119 : decode cL_areAlike 119 = .ok (.if_icmp .ne 32, 3) := by decide +kernel
theorem dL_areAlike_122 : decode cL_areAlike 122 = .ok (.iload 4, 2) := by decide +kernel
theorem dL_areAlike_124 : decode cL_areAlike 124 = .ok (.iconst 3, 1) := by decide +kernel
theorem dL_areAlike_125 : decode cL_areAlike 125 = .ok (.if_icmp .gt 22, 3) := by decide +kernel
theorem dL_areAlike_128 : decode cL_areAlike 128 = .ok (.aload_n 0, 1) := by decide +kernel
theorem dL_areAlike_129 : decode cL_areAlike 129 = .ok (.iload_n 3, 1) := by decide +kernel
theorem dL_areAlike_130 : decode cL_areAlike 130 = .ok (.iload 4, 2) := by decide +kernel
theorem dL_areAlike_132 : decode cL_areAlike 132 = .ok (.invokevirtual 15, 3) := by decide +kernel
theorem dL_areAlike_135 : decode cL_areAlike 135 = .ok (.aload_n 1, 1) := by decide +kernel
theorem dL_areAlike_136 : decode cL_areAlike 136 = .ok (.iconst 2, 1) := by decide +kernel
theorem dL_areAlike_137 : decode cL_areAlike 137 = .ok (.iload_n 3, 1) := by decide +kernel
theorem dL_areAlike_138 : decode cL_areAlike 138 = .ok (.isub, 1) := by decide +kernel
theorem dL_areAlike_139 : decode cL_areAlike 139 = .ok (.iload 4, 2) := by decide +kernel
theorem dL_areAlike_141 : decode cL_areAlike 141 = .ok (.invokevirtual 15, 3) := by decide +kernel
theorem dL_areAlike_144 : decode cL_areAlike 144 = .ok (.if_icmp .ne 7, 3) := by decide +kernel
theorem dL_areAlike_147 : decode cL_areAlike 147 = .ok (.iconst 1, 1) := by decide +kernel
theorem dL_areAlike_148 : decode cL_areAlike 148 = .ok (.goto 4, 3) := by decide +kernel
theorem dL_areAlike_151 : decode cL_areAlike 151 = .ok (.iconst 0, 1) := by decide +kernel
theorem dL_areAlike_152 : decode cL_areAlike 152 = .ok (.istore_n 2, 1) := by decide +kernel
theorem dL_areAlike_153 : decode cL_areAlike 153 = .ok (.iinc 4 1, 3) := by decide +kernel
theorem dL_areAlike_156 : decode cL_areAlike 156 = .ok (.goto (-62), 3) := by decide +kernel
theorem dL_areAlike_159 : decode cL_areAlike 159 = .ok (.iinc 3 1, 3) := by decide +kernel
theorem dL_areAlike_162 : decode cL_areAlike 162 = .ok (.goto (-76), 3) := by decide +kernel
theorem dL_areAlike_165 : decode cL_areAlike 165 = .ok (.iconst 0, 1) := by decide +kernel
theorem dL_areAlike_166 : decode cL_areAlike 166 = .ok (.istore_n 3, 1) := by decide +kernel
theorem dL_areAlike_167 : decode cL_areAlike 167 = .ok (.iload_n 3, 1) := by decide +kernel
theorem dL_areAlike_168 : decode cL_areAlike 168 = .ok (.aload_n 0, 1) := by decide +kernel
theorem dL_areAlike_169 : decode cL_areAlike 169 = .ok (.bipush 6, 2) := by decide +kernel
theorem dL_areAlike_171 : decode cL_areAlike 171 = .ok (.invokevirtual 58, 3) := by decide +kernel
theorem dL_areAlike_174 : decode cL_areAlike 174 = .ok (.if_icmp .ge 64, 3) := by decide +kernel
theorem dL_areAlike_177 : decode cL_areAlike 177 = .ok (.iload_n 2, 1) := by decide +kernel
theorem dL_areAlike_178 : decode cL_areAlike 178 = .ok (.ifCond .eq 52, 3) := by decide +kernel
theorem dL_areAlike_181 : decode cL_areAlike 181 = .ok (.aload_n 0, 1) := by decide +kernel
theorem dL_areAlike_182 : decode cL_areAlike 182 = .ok (.iload_n 3, 1) := by decide +kernel
theorem dL_areAlike_183 : decode cL_areAlike 183 = .ok (.iconst 0, 1) := by decide +kernel
theorem dL_areAlike_184 : decode cL_areAlike 184 = .ok (.invokevirtual 61, 3) := by decide +kernel
theorem dL_areAlike_187 : decode cL_areAlike 187 = .ok (.aload_n 1, 1) := by decide +kernel
theorem dL_areAlike_188 : decode cL_areAlike 188 = .ok (.iload_n 3, 1) := by decide +kernel
theorem dL_areAlike_189 : decode cL_areAlike 189 = .ok (.iconst 0, 1) := by decide +kernel
theorem dL_areAlike_190 : decode cL_areAlike 190 = .ok (.invokevirtual 61, 3) := by decide +kernel
theorem dL_areAlike_193 : decode cL_areAlike 193 = .ok (.if_icmp .ne 37, 3) := by decide +kernel
theorem dL_areAlike_196 : decode cL_areAlike 196 = .ok (.aload_n 0, 1) := by decide +kernel
theorem dL_areAlike_197 : decode cL_areAlike 197 = .ok (.iload_n 3, 1) := by decide +kernel
theorem dL_areAlike_198 : decode cL_areAlike 198 = .ok (.iconst 1, 1) := by decide +kernel
theorem dL_areAlike_199 : decode cL_areAlike 199 = .ok (.invokevirtual 61, 3) := by decide +kernel
theorem dL_areAlike_202 : decode cL_areAlike 202 = .ok (.aload_n 1, 1) := by decide +kernel
theorem dL_areAlike_203 : decode cL_areAlike 203 = .ok (.iload_n 3, 1) := by decide +kernel
theorem dL_areAlike_204 : decode cL_areAlike 204 = .ok (.iconst 1, 1) := by decide +kernel
theorem dL_areAlike_205 : decode cL_areAlike 205 = .ok (.invokevirtual 61, 3) := by decide +kernel
theorem dL_areAlike_208 : decode cL_areAlike 208 = .ok (.if_icmp .ne 22, 3) := by decide +kernel
theorem dL_areAlike_211 : decode cL_areAlike 211 = .ok (.aload_n 0, 1) := by decide +kernel
theorem dL_areAlike_212 : decode cL_areAlike 212 = .ok (.iload_n 3, 1) := by decide +kernel
theorem dL_areAlike_213 : decode cL_areAlike 213 = .ok (.iconst 2, 1) := by decide +kernel
theorem dL_areAlike_214 : decode cL_areAlike 214 = .ok (.invokevirtual 61, 3) := by decide +kernel
theorem dL_areAlike_217 : decode cL_areAlike 217 = .ok (.aload_n 1, 1) := by decide +kernel
theorem dL_areAlike_218 : decode cL_areAlike 218 = .ok (.iload_n 3, 1) := by decide +kernel
theorem dL_areAlike_219 : decode cL_areAlike 219 = .ok (.iconst 2, 1) := by decide +kernel
theorem dL_areAlike_220 : decode cL_areAlike 220 = .ok (.invokevirtual 61, 3) := by decide +kernel
theorem dL_areAlike_223 : decode cL_areAlike 223 = .ok (.if_icmp .ne 7, 3) := by decide +kernel
theorem dL_areAlike_226 : decode cL_areAlike 226 = .ok (.iconst 1, 1) := by decide +kernel
theorem dL_areAlike_227 : decode cL_areAlike 227 = .ok (.goto 4, 3) := by decide +kernel
theorem dL_areAlike_230 : decode cL_areAlike 230 = .ok (.iconst 0, 1) := by decide +kernel
theorem dL_areAlike_231 : decode cL_areAlike 231 = .ok (.istore_n 2, 1) := by decide +kernel
theorem dL_areAlike_232 : decode cL_areAlike 232 = .ok (.iinc 3 1, 3) := by decide +kernel
theorem dL_areAlike_235 : decode cL_areAlike 235 = .ok (.goto (-68), 3) := by decide +kernel
theorem dL_areAlike_238 : decode cL_areAlike 238 = .ok (.iload_n 2, 1) := by decide +kernel
theorem dL_areAlike_239 : decode cL_areAlike 239 = .ok (.ireturn, 1) := by decide +kernel
theorem dL_isSound_0 : decode cL_isSound 0 = .ok (.iconst 0, 1) := by decide +kernel
theorem dL_isSound_1 : decode cL_isSound 1 = .ok (.istore_n 1, 1) := by decide +kernel
theorem dL_isSound_2 : decode cL_isSound 2 = .ok (.iconst 0, 1) := by decide +kernel
theorem dL_isSound_3 : decode cL_isSound 3 = .ok (.istore_n 2, 1) := by decide +kernel
theorem dL_isSound_4 : decode cL_isSound 4 = .ok (.aload_n 0, 1) := by decide +kernel
theorem dL_isSound_5 : decode cL_isSound 5 = .ok (.iconst 4, 1) := by decide +kernel
theorem dL_isSound_6 : decode cL_isSound 6 = .ok (.invokevirtual 55, 3) := by decide +kernel
theorem dL_isSound_9 : decode cL_isSound 9 = .ok (.istore_n 3, 1) := by decide +kernel
theorem dL_isSound_10 : decode cL_isSound 10 = .ok (.aload_n 0, 1) := by decide +kernel
theorem dL_isSound_11 : decode cL_isSound 11 = .ok (.iconst 0, 1) := by decide +kernel
theorem dL_isSound_12 : decode cL_isSound 12 = .ok (.invokevirtual 55, 3) := by decide +kernel
theorem dL_isSound_15 : decode cL_isSound 15 = .ok (.ifCond .lt 62, 3) := by decide +kernel
theorem dL_isSound_18 : decode cL_isSound 18 = .ok (.aload_n 0, 1) := by decide +kernel
theorem dL_isSound_19 : decode cL_isSound 19 = .ok (.iconst 0, 1) := by decide +kernel
theorem dL_isSound_20 : decode cL_isSound 20 = .ok (.invokevirtual 55, 3) := by decide +kernel
theorem dL_isSound_23 : decode cL_isSound 23 = .ok (.sipush 2000, 3) := by decide +kernel
theorem dL_isSound_26 : decode cL_isSound 26 = .ok (.if_icmp .gt 51, 3) := by decide +kernel
theorem dL_isSound_29 : decode cL_isSound 29 = .ok (.aload_n 0, 1) := by decide +kernel
theorem dL_isSound_30 : decode cL_isSound 30 = .ok (.iconst 1, 1) := by decide +kernel
theorem dL_isSound_31 : decode cL_isSound 31 = .ok (.invokevirtual 55, 3) := by decide +kernel
theorem dL_isSound_34 : decode cL_isSound 34 = .ok (.ifCond .lt 43, 3) := by decide +kernel
theorem dL_isSound_37 : decode cL_isSound 37 = .ok (.aload_n 0, 1) := by decide +kernel
theorem dL_isSound_38 : decode cL_isSound 38 = .ok (.iconst 1, 1) := by decide +kernel
theorem dL_isSound_39 : decode cL_isSound 39 = .ok (.invokevirtual 55, 3) := by decide +kernel
theorem dL_isSound_42 : decode cL_isSound 42 = .ok (.sipush 20000, 3) := by decide +kernel
theorem dL_isSound_45 : decode cL_isSound 45 = .ok (.if_icmp .gt 32, 3) := by decide +kernel
theorem dL_isSound_48 : decode cL_isSound 48 = .ok (.iload_n 3, 1) := by decide +kernel
theorem dL_isSound_49 : decode cL_isSound 49 = .ok (.ifCond .lt 24, 3) := by decide +kernel
theorem dL_isSound_52 : decode cL_isSound 52 = .ok (.aload_n 0, 1) := by decide +kernel
theorem dL_isSound_53 : decode cL_isSound 53 = .ok (.iload_n 3, 1) := by decide +kernel
theorem dL_isSound_54 : decode cL_isSound 54 = .ok (.iconst 0, 1) := by decide +kernel
theorem dL_isSound_55 : decode cL_isSound 55 = .ok (.invokevirtual 27, 3) := by decide +kernel
theorem dL_isSound_58 : decode cL_isSound 58 = .ok (.ifCond .le 19, 3) := by decide +kernel
theorem dL_isSound_61 : decode cL_isSound 61 = .ok (.aload_n 0, 1) := by decide +kernel
theorem dL_isSound_62 : decode cL_isSound 62 = .ok (.iload_n 3, 1) := by decide +kernel
theorem dL_isSound_63 : decode cL_isSound 63 = .ok (.iconst 4, 1) := by decide +kernel
theorem dL_isSound_64 : decode cL_isSound 64 = .ok (.invokevirtual 27, 3) := by decide +kernel
theorem dL_isSound_67 : decode cL_isSound 67 = .ok (.sipush 300, 3) := by decide +kernel
theorem dL_isSound_70 : decode cL_isSound 70 = .ok (.if_icmp .lt 7, 3) := by decide +kernel
theorem dL_isSound_73 : decode cL_isSound 73 = .ok (.iconst 1, 1) := by decide +kernel
theorem dL_isSound_74 : decode cL_isSound 74 = .ok (.goto 4, 3) := by decide +kernel
theorem dL_isSound_77 : decode cL_isSound 77 = .ok (.iconst 0, 1) := by decide +kernel
theorem dL_isSound_78 : decode cL_isSound 78 = .ok (.istore 4, 2) := by decide +kernel
theorem dL_isSound_80 : decode cL_isSound 80 = .ok (.iconst 0, 1) := by decide +kernel
theorem dL_isSound_81 : decode cL_isSound 81 = .ok (.istore 5, 2) := by decide +kernel
theorem dL_isSound_83 : decode cL_isSound 83 = .ok (.iload 5, 2) := by decide +kernel
theorem dL_isSound_85 : decode cL_isSound 85 = .ok (.iconst 3, 1) := by decide +kernel
theorem dL_isSound_86 : decode cL_isSound 86 = .ok (.if_icmp .ge 142, 3) := by decide +kernel
theorem dL_isSound_89 : decode cL_isSound 89 = .ok (.aload_n 0, 1) := by decide +kernel
theorem dL_isSound_90 : decode cL_isSound 90 = .ok (.iload 5, 2) := by decide +kernel
theorem dL_isSound_92 : decode cL_isSound 92 = .ok (.iconst 4, 1) := by decide +kernel
theorem dL_isSound_93 : decode cL_isSound 93 = .ok (.invokevirtual 27, 3) := by decide +kernel
theorem dL_isSound_96 : decode cL_isSound 96 = .ok (.istore 6, 2) := by decide +kernel
theorem dL_isSound_98 : decode cL_isSound 98 = .ok (.iload_n 1, 1) := by decide +kernel
theorem dL_isSound_99 : decode cL_isSound 99 = .ok (.iload 6, 2) := by decide +kernel
theorem dL_isSound_101 : decode cL_isSound 101 = .ok (.ifCond .le 7, 3) := by decide +kernel
theorem dL_isSound_104 : decode cL_isSound 104 = .ok (.iconst 1, 1) := by decide +kernel
theorem dL_isSound_105 : decode cL_isSound 105 = .ok (.goto 4, 3) := by decide +kernel
theorem dL_isSound_108 : decode cL_isSound 108 = .ok (.iconst 0, 1) := by decide +kernel
theorem dL_isSound_109 : decode cL_isSound 109 = .ok (.iadd, 1) := by decide +kernel
theorem dL_isSound_110 : decode cL_isSound 110 = .ok (.istore_n 1, 1) := by decide +kernel
theorem dL_isSound_111 : decode cL_isSound 111 = .ok (.iload_n 2, 1) := by decide +kernel
theorem dL_isSound_112 : decode cL_isSound 112 = .ok (.iload 6, 2) := by decide +kernel
theorem dL_isSound_114 : decode cL_isSound 114 = .ok (.ifCond .ne 18, 3) := by decide +kernel
theorem dL_isSound_117 : decode cL_isSound 117 = .ok (.aload_n 0, 1) := by decide +kernel
theorem dL_isSound_118 : decode cL_isSound 118 = .ok (.iload 5, 2) := by decide +kernel
theorem dL_isSound_120 : decode cL_isSound 120 = .ok (.iconst 3, 1) := by decide +kernel
theorem dL_isSound_121 : decode cL_isSound 121 = .ok (.invokevirtual 27, 3) := by decide +kernel
theorem dL_isSound_124 : decode cL_isSound 124 = .ok (.iconst 1, 1) := by decide +kernel
theorem dL_isSound_125 : decode cL_isSound 125 = .ok (.if_icmp .ne 7, 3) := by decide +kernel
theorem dL_isSound_128 : decode cL_isSound 128 = .ok (.iconst 1, 1) := by decide +kernel
theorem dL_isSound_129 : decode cL_isSound 129 = .ok (.goto 4, 3) := by decide +kernel
theorem dL_isSound_132 : decode cL_isSound 132 = .ok (.iconst 0, 1) := by decide +kernel
theorem dL_isSound_133 : decode cL_isSound 133 = .ok (.iadd, 1) := by decide +kernel
theorem dL_isSound_134 : decode cL_isSound 134 = .ok (.istore_n 2, 1) := by decide +kernel
theorem dL_isSound_135 : decode cL_isSound 135 = .ok (.iload 4, 2) := by decide +kernel
theorem dL_isSound_137 : decode cL_isSound 137 = .ok (.ifCond .eq 82, 3) := by decide +kernel
theorem dL_isSound_140 : decode cL_isSound 140 = .ok (.iload 6, 2) := by decide +kernel
theorem dL_isSound_142 : decode cL_isSound 142 = .ok (.ifCond .eq 14, 3) := by decide +kernel
theorem dL_isSound_145 : decode cL_isSound 145 = .ok (.aload_n 0, 1) := by decide +kernel
theorem dL_isSound_146 : decode cL_isSound 146 = .ok (.iload 5, 2) := by decide +kernel
theorem dL_isSound_148 : decode cL_isSound 148 = .ok (.iconst 3, 1) := by decide +kernel
theorem dL_isSound_149 : decode cL_isSound 149 = .ok (.invokevirtual 27, 3) := by decide +kernel
theorem dL_isSound_152 : decode cL_isSound 152 = .ok (.iconst 1, 1) := by decide +kernel
theorem dL_isSound_153 : decode cL_isSound 153 = .ok (.if_icmp .ne 66, 3) := by decide +kernel
theorem dL_isSound_156 : decode cL_isSound 156 = .ok (.iload 6, 2) := by decide +kernel
theorem dL_isSound_158 : decode cL_isSound 158 = .ok (.ifCond .eq 17, 3) := by decide +kernel
theorem dL_isSound_161 : decode cL_isSound 161 = .ok (.iload 6, 2) := by decide +kernel
theorem dL_isSound_163 : decode cL_isSound 163 = .ok (.sipush 1000, 3) := by decide +kernel
theorem dL_isSound_166 : decode cL_isSound 166 = .ok (.if_icmp .eq 9, 3) := by decide +kernel
theorem dL_isSound_169 : decode cL_isSound 169 = .ok (.iload 5, 2) := by decide +kernel
theorem dL_isSound_171 : decode cL_isSound 171 = .ok (.iload_n 3, 1) := by decide +kernel
theorem dL_isSound_172 : decode cL_isSound 172 = .ok (.if_icmp .ne 47, 3) := by decide +kernel
theorem dL_isSound_175 : decode cL_isSound 175 = .ok (.aload_n 0, 1) := by decide +kernel
theorem dL_isSound_176 : decode cL_isSound 176 = .ok (.iload 5, 2) := by decide +kernel
theorem dL_isSound_178 : decode cL_isSound 178 = .ok (.iconst 5, 1) := by decide +kernel
theorem dL_isSound_179 : decode cL_isSound 179 = .ok (.invokevirtual 27, 3) := by decide +kernel
theorem dL_isSound_182 : decode cL_isSound 182 = .ok (.iload 5, 2) := by decide +kernel
theorem dL_isSound_184 : decode cL_isSound 184 = .ok (.iload_n 3, 1) := by decide +kernel
theorem dL_isSound_185 : decode cL_isSound 185 = .ok (.if_icmp .ne 7, 3) := by decide +kernel
theorem dL_isSound_188 : decode cL_isSound 188 = .ok (.iconst 1, 1) := by decide +kernel
theorem dL_isSound_189 : decode cL_isSound 189 = .ok (.goto 4, 3) := by decide +kernel
theorem dL_isSound_192 : decode cL_isSound 192 = .ok (.iconst 0, 1) := by decide +kernel
theorem dL_isSound_193 : decode cL_isSound 193 = .ok (.if_icmp .ne 26, 3) := by decide +kernel
theorem dL_isSound_196 : decode cL_isSound 196 = .ok (.aload_n 0, 1) := by decide +kernel
theorem dL_isSound_197 : decode cL_isSound 197 = .ok (.iload 5, 2) := by decide +kernel
theorem dL_isSound_199 : decode cL_isSound 199 = .ok (.bipush 7, 2) := by decide +kernel
theorem dL_isSound_201 : decode cL_isSound 201 = .ok (.invokevirtual 27, 3) := by decide +kernel
theorem dL_isSound_204 : decode cL_isSound 204 = .ok (.aload_n 0, 1) := by decide +kernel
theorem dL_isSound_205 : decode cL_isSound 205 = .ok (.iload 5, 2) := by decide +kernel
theorem dL_isSound_207 : decode cL_isSound 207 = .ok (.bipush 6, 2) := by decide +kernel
theorem dL_isSound_209 : decode cL_isSound 209 = .ok (.invokevirtual 27, 3) := by decide +kernel
theorem dL_isSound_212 : decode cL_isSound 212 = .ok (.if_icmp .gt 7, 3) := by decide +kernel
theorem dL_isSound_215 : decode cL_isSound 215 = .ok (.iconst 1, 1) := by decide +kernel
theorem dL_isSound_216 : decode cL_isSound 216 = .ok (.goto 4, 3) := by decide +kernel
theorem dL_isSound_219 : decode cL_isSound 219 = .ok (.iconst 0, 1) := by decide +kernel
theorem dL_isSound_220 : decode cL_isSound 220 = .ok (.istore 4, 2) := by decide +kernel
theorem dL_isSound_222 : decode cL_isSound 222 = .ok (.iinc 5 1, 3) := by decide +kernel
theorem dL_isSound_225 : decode cL_isSound 225 = .ok (.goto (-142), 3) := by decide +kernel
theorem dL_isSound_228 : decode cL_isSound 228 = .ok (.iload 4, 2) := by decide +kernel
theorem dL_isSound_230 : decode cL_isSound 230 = .ok (.ifCond .eq 66, 3) := by decide +kernel
theorem dL_isSound_233 : decode cL_isSound 233 = .ok (.aload_n 0, 1) := by decide +kernel
theorem dL_isSound_234 : decode cL_isSound 234 = .ok (.iconst 5, 1) := by decide +kernel
theorem dL_isSound_235 : decode cL_isSound 235 = .ok (.invokevirtual 55, 3) := by decide +kernel
theorem dL_isSound_238 : decode cL_isSound 238 = .ok (.iload_n 1, 1) := by decide +kernel
theorem dL_isSound_239 : decode cL_isSound 239 = .ok (.if_icmp .ne 57, 3) := by decide +kernel
theorem dL_isSound_242 : decode cL_isSound 242 = .ok (.aload_n 0, 1) := by decide +kernel
theorem dL_isSound_243 : decode cL_isSound 243 = .ok (.iconst 4, 1) := by decide +kernel
theorem dL_isSound_244 : decode cL_isSound 244 = .ok (.invokevirtual 58, 3) := by decide +kernel
theorem dL_isSound_247 : decode cL_isSound 247 = .ok (.iload_n 2, 1) := by decide +kernel
theorem dL_isSound_248 : decode cL_isSound 248 = .ok (.if_icmp .ne 48, 3) := by decide +kernel
theorem dL_isSound_251 : decode cL_isSound 251 = .ok (.aload_n 0, 1) := by decide +kernel
theorem dL_isSound_252 : decode cL_isSound 252 = .ok (.bipush 6, 2) := by decide +kernel
theorem dL_isSound_254 : decode cL_isSound 254 = .ok (.invokevirtual 55, 3) := by decide +kernel
theorem dL_isSound_257 : decode cL_isSound 257 = .ok (.ifCond .eq 7, 3) := by decide +kernel
theorem dL_isSound_260 : decode cL_isSound 260 = .ok (.iload_n 1, 1) := by decide +kernel
theorem dL_isSound_261 : decode cL_isSound 261 = .ok (.ifCond .ne 35, 3) := by decide +kernel
theorem dL_isSound_264 : decode cL_isSound 264 = .ok (.aload_n 0, 1) := by decide +kernel
theorem dL_isSound_265 : decode cL_isSound 265 = .ok (.iconst 0, 1) := by decide +kernel
theorem dL_isSound_266 : decode cL_isSound 266 = .ok (.iconst 2, 1) := by decide +kernel
theorem dL_isSound_267 : decode cL_isSound 267 = .ok (.invokevirtual 15, 3) := by decide +kernel
theorem dL_isSound_270 : decode cL_isSound 270 = .ok (.aload_n 0, 1) := by decide +kernel
theorem dL_isSound_271 : decode cL_isSound 271 = .ok (.iconst 1, 1) := by decide +kernel
theorem dL_isSound_272 : decode cL_isSound 272 = .ok (.iconst 2, 1) := by decide +kernel
theorem dL_isSound_273 : decode cL_isSound 273 = .ok (.invokevirtual 15, 3) := by decide +kernel
theorem dL_isSound_276 : decode cL_isSound 276 = .ok (.iadd, 1) := by decide +kernel
theorem dL_isSound_277 : decode cL_isSound 277 = .ok (.aload_n 0, 1) := by decide +kernel
theorem dL_isSound_278 : decode cL_isSound 278 = .ok (.iconst 2, 1) := by decide +kernel
theorem dL_isSound_279 : decode cL_isSound 279 = .ok (.iconst 2, 1) := by decide +kernel
theorem dL_isSound_280 : decode cL_isSound 280 = .ok (.invokevirtual 15, 3) := by decide +kernel
theorem dL_isSound_283 : decode cL_isSound 283 = .ok (.iadd, 1) := by decide +kernel
theorem dL_isSound_284 : decode cL_isSound 284 = .ok (.aload_n 0, 1) := by decide +kernel
theorem dL_isSound_285 : decode cL_isSound 285 = .ok (.iconst 3, 1) := by decide +kernel
theorem dL_isSound_286 : decode cL_isSound 286 = .ok (.invokevirtual 55, 3) := by decide +kernel
theorem dL_isSound_289 : decode cL_isSound 289 = .ok (.if_icmp .gt 7, 3) := by decide +kernel
theorem dL_isSound_292 : decode cL_isSound 292 = .ok (.iconst 1, 1) := by decide +kernel
theorem dL_isSound_293 : decode cL_isSound 293 = .ok (.goto 4, 3) := by decide +kernel
theorem dL_isSound_296 : decode cL_isSound 296 = .ok (.iconst 0, 1) := by decide +kernel
theorem dL_isSound_297 : decode cL_isSound 297 = .ok (.ireturn, 1) := by decide +kernel
theorem dL_isMinute_0 : decode cL_isMinute 0 = .ok (.aload_n 0, 1) := by decide +kernel
theorem dL_isMinute_1 : decode cL_isMinute 1 = .ok (.iconst 1, 1) := by decide +kernel
theorem dL_isMinute_2 : decode cL_isMinute 2 = .ok (.invokevirtual 55, 3) := by decide +kernel
theorem dL_isMinute_5 : decode cL_isMinute 5 = .ok (.istore_n 1, 1) := by decide +kernel
theorem dL_isMinute_6 : decode cL_isMinute 6 = .ok (.aload_n 0, 1) := by decide +kernel
theorem dL_isMinute_7 : decode cL_isMinute 7 = .ok (.bipush 14, 2) := by decide +kernel
theorem dL_isMinute_9 : decode cL_isMinute 9 = .ok (.invokevirtual 55, 3) := by decide +kernel
theorem dL_isMinute_12 : decode cL_isMinute 12 = .ok (.istore_n 2, 1) := by decide +kernel
theorem dL_isMinute_13 : decode cL_isMinute 13 = .ok (.aload_n 0, 1) := by decide +kernel
theorem dL_isMinute_14 : decode cL_isMinute 14 = .ok (.iconst 0, 1) := by decide +kernel
theorem dL_isMinute_15 : decode cL_isMinute 15 = .ok (.invokevirtual 55, 3) := by decide +kernel
theorem dL_isMinute_18 : decode cL_isMinute 18 = .ok (.istore_n 3, 1) := by decide +kernel
theorem dL_isMinute_19 : decode cL_isMinute 19 = .ok (.aload_n 0, 1) := by decide +kernel
theorem dL_isMinute_20 : decode cL_isMinute 20 = .ok (.iconst 1, 1) := by decide +kernel
theorem dL_isMinute_21 : decode cL_isMinute 21 = .ok (.iconst 0, 1) := by decide +kernel
theorem dL_isMinute_22 : decode cL_isMinute 22 = .ok (.invokevirtual 49, 3) := by decide +kernel
theorem dL_isMinute_25 : decode cL_isMinute 25 = .ok (.istore 4, 2) := by decide +kernel
theorem dL_isMinute_27 : decode cL_isMinute 27 = .ok (.aload_n 0, 1) := by decide +kernel
theorem dL_isMinute_28 : decode cL_isMinute 28 = .ok (.iconst 1, 1) := by decide +kernel
theorem dL_isMinute_29 : decode cL_isMinute 29 = .ok (.invokevirtual 43, 3) := by decide +kernel
theorem dL_isMinute_32 : decode cL_isMinute 32 = .ok (.ifCond .le 33, 3) := by decide +kernel
theorem dL_isMinute_35 : decode cL_isMinute 35 = .ok (.aload_n 0, 1) := by decide +kernel
theorem dL_isMinute_36 : decode cL_isMinute 36 = .ok (.bipush 14, 2) := by decide +kernel
theorem dL_isMinute_38 : decode cL_isMinute 38 = .ok (.invokevirtual 55, 3) := by decide +kernel
theorem dL_isMinute_41 : decode cL_isMinute 41 = .ok (.iload_n 2, 1) := by decide +kernel
theorem dL_isMinute_42 : decode cL_isMinute 42 = .ok (.aload_n 0, 1) := by decide +kernel
theorem dL_isMinute_43 : decode cL_isMinute 43 = .ok (.iconst 2, 1) := by decide +kernel
theorem dL_isMinute_44 : decode cL_isMinute 44 = .ok (.invokevirtual 55, 3) := by decide +kernel
theorem dL_isMinute_47 : decode cL_isMinute 47 = .ok (.iadd, 1) := by decide +kernel
theorem dL_isMinute_48 : decode cL_isMinute 48 = .ok (.if_icmp .ne 17, 3) := by decide +kernel
theorem dL_isMinute_51 : decode cL_isMinute 51 = .ok (.aload_n 0, 1) := by decide +kernel
theorem dL_isMinute_52 : decode cL_isMinute 52 = .ok (.iconst 0, 1) := by decide +kernel
theorem dL_isMinute_53 : decode cL_isMinute 53 = .ok (.invokevirtual 55, 3) := by decide +kernel
theorem dL_isMinute_56 : decode cL_isMinute 56 = .ok (.iload 4, 2) := by decide +kernel
theorem dL_isMinute_58 : decode cL_isMinute 58 = .ok (.if_icmp .ne 7, 3) := by decide +kernel
theorem dL_isMinute_61 : decode cL_isMinute 61 = .ok (.iconst 1, 1) := by decide +kernel
theorem dL_isMinute_62 : decode cL_isMinute 62 = .ok (.goto 4, 3) := by decide +kernel
theorem dL_isMinute_65 : decode cL_isMinute 65 = .ok (.iconst 0, 1) := by decide +kernel
theorem dL_isMinute_66 : decode cL_isMinute 66 = .ok (.istore 5, 2) := by decide +kernel
theorem dL_isMinute_68 : decode cL_isMinute 68 = .ok (.iload_n 1, 1) := by decide +kernel
theorem dL_isMinute_69 : decode cL_isMinute 69 = .ok (.aload_n 0, 1) := by decide +kernel
theorem dL_isMinute_70 : decode cL_isMinute 70 = .ok (.iconst 2, 1) := by decide +kernel
theorem dL_isMinute_71 : decode cL_isMinute 71 = .ok (.invokevirtual 55, 3) := by decide +kernel
theorem dL_isMinute_74 : decode cL_isMinute 74 = .ok (.isub, 1) := by decide +kernel
theorem dL_isMinute_75 : decode cL_isMinute 75 = .ok (.aload_n 0, 1) := by decide +kernel
theorem dL_isMinute_76 : decode cL_isMinute 76 = .ok (.bipush 34, 2) := by decide +kernel
theorem dL_isMinute_78 : decode cL_isMinute 78 = .ok (.invokevirtual 58, 3) := by decide +kernel
theorem dL_isMinute_81 : decode cL_isMinute 81 = .ok (.iadd, 1) := by decide +kernel
theorem dL_isMinute_82 : decode cL_isMinute 82 = .ok (.istore 6, 2) := by decide +kernel
theorem dL_isMinute_84 : decode cL_isMinute 84 = .ok (.iload 5, 2) := by decide +kernel
theorem dL_isMinute_86 : decode cL_isMinute 86 = .ok (.ifCond .eq 31, 3) := by decide +kernel
theorem dL_isMinute_89 : decode cL_isMinute 89 = .ok (.aload_n 0, 1) := by decide +kernel
theorem dL_isMinute_90 : decode cL_isMinute 90 = .ok (.iconst 1, 1) := by decide +kernel
theorem dL_isMinute_91 : decode cL_isMinute 91 = .ok (.invokevirtual 55, 3) := by decide +kernel
theorem dL_isMinute_94 : decode cL_isMinute 94 = .ok (.iload 6, 2) := by decide +kernel
theorem dL_isMinute_96 : decode cL_isMinute 96 = .ok (.sipush 20000, 3) := by decide +kernel
theorem dL_isMinute_99 : decode cL_isMinute 99 = .ok (.if_icmp .le 9, 3) := by decide +kernel
theorem dL_isMinute_102 : decode cL_isMinute 102 = .ok (.sipush 20000, 3) := by decide +kernel
theorem dL_isMinute_105 : decode cL_isMinute 105 = .ok (.goto 5, 3) := by decide +kernel
theorem dL_isMinute_108 : decode cL_isMinute 108 = .ok (.iload 6, 2) := by decide +kernel
theorem dL_isMinute_110 : decode cL_isMinute 110 = .ok (.if_icmp .ne 7, 3) := by decide +kernel
theorem dL_isMinute_113 : decode cL_isMinute 113 = .ok (.iconst 1, 1) := by decide +kernel
theorem dL_isMinute_114 : decode cL_isMinute 114 = .ok (.goto 4, 3) := by decide +kernel
theorem dL_isMinute_117 : decode cL_isMinute 117 = .ok (.iconst 0, 1) := by decide +kernel
theorem dL_isMinute_118 : decode cL_isMinute 118 = .ok (.istore 5, 2) := by decide +kernel
theorem dL_isMinute_120 : decode cL_isMinute 120 = .ok (.iload 5, 2) := by decide +kernel
theorem dL_isMinute_122 : decode cL_isMinute 122 = .ok (.ifCond .eq 42, 3) := by decide +kernel
theorem dL_isMinute_125 : decode cL_isMinute 125 = .ok (.aload_n 0, 1) := by decide +kernel
theorem dL_isMinute_126 : decode cL_isMinute 126 = .ok (.invokevirtual 64, 3) := by decide +kernel
theorem dL_isMinute_129 : decode cL_isMinute 129 = .ok (.ifCond .lt 35, 3) := by decide +kernel
theorem dL_isMinute_132 : decode cL_isMinute 132 = .ok (.aload_n 0, 1) := by decide +kernel
theorem dL_isMinute_133 : decode cL_isMinute 133 = .ok (.iconst 1, 1) := by decide +kernel
theorem dL_isMinute_134 : decode cL_isMinute 134 = .ok (.invokevirtual 55, 3) := by decide +kernel
theorem dL_isMinute_137 : decode cL_isMinute 137 = .ok (.iload_n 1, 1) := by decide +kernel
theorem dL_isMinute_138 : decode cL_isMinute 138 = .ok (.if_icmp .ne 26, 3) := by decide +kernel
theorem dL_isMinute_141 : decode cL_isMinute 141 = .ok (.aload_n 0, 1) := by decide +kernel
theorem dL_isMinute_142 : decode cL_isMinute 142 = .ok (.iconst 0, 1) := by decide +kernel
theorem dL_isMinute_143 : decode cL_isMinute 143 = .ok (.invokevirtual 55, 3) := by decide +kernel
theorem dL_isMinute_146 : decode cL_isMinute 146 = .ok (.iload_n 3, 1) := by decide +kernel
theorem dL_isMinute_147 : decode cL_isMinute 147 = .ok (.if_icmp .ne 17, 3) := by decide +kernel
theorem dL_isMinute_150 : decode cL_isMinute 150 = .ok (.aload_n 0, 1) := by decide +kernel
theorem dL_isMinute_151 : decode cL_isMinute 151 = .ok (.bipush 14, 2) := by decide +kernel
theorem dL_isMinute_153 : decode cL_isMinute 153 = .ok (.invokevirtual 55, 3) := by decide +kernel
theorem dL_isMinute_156 : decode cL_isMinute 156 = .ok (.iload_n 2, 1) := by decide +kernel
theorem dL_isMinute_157 : decode cL_isMinute 157 = .ok (.if_icmp .ne 7, 3) := by decide +kernel
theorem dL_isMinute_160 : decode cL_isMinute 160 = .ok (.iconst 1, 1) := by decide +kernel
theorem dL_isMinute_161 : decode cL_isMinute 161 = .ok (.goto 4, 3) := by decide +kernel
theorem dL_isMinute_164 : decode cL_isMinute 164 = .ok (.iconst 0, 1) := by decide +kernel
theorem dL_isMinute_165 : decode cL_isMinute 165 = .ok (.ireturn, 1) := by decide +kernel
theorem dL_law_0 : decode cL_law 0 = .ok (.new 16, 3) := by decide +kernel
theorem dL_law_3 : decode cL_law 3 = .ok (.dup, 1) := by decide +kernel
theorem dL_law_4 : decode cL_law 4 = .ok (.invokespecial 67, 3) := by decide +kernel
theorem dL_law_7 : decode cL_law 7 = .ok (.astore_n 1, 1) := by decide +kernel
theorem dL_law_8 : decode cL_law 8 = .ok (.new 16, 3) := by decide +kernel
theorem dL_law_11 : decode cL_law 11 = .ok (.dup, 1) := by decide +kernel
theorem dL_law_12 : decode cL_law 12 = .ok (.invokespecial 67, 3) := by decide +kernel
theorem dL_law_15 : decode cL_law 15 = .ok (.astore_n 2, 1) := by decide +kernel
theorem dL_law_16 : decode cL_law 16 = .ok (.iconst 1, 1) := by decide +kernel
theorem dL_law_17 : decode cL_law 17 = .ok (.istore_n 3, 1) := by decide +kernel
theorem dL_law_18 : decode cL_law 18 = .ok (.iconst 0, 1) := by decide +kernel
theorem dL_law_19 : decode cL_law 19 = .ok (.istore 4, 2) := by decide +kernel
theorem dL_law_21 : decode cL_law 21 = .ok (.iload 4, 2) := by decide +kernel
theorem dL_law_23 : decode cL_law 23 = .ok (.iconst 3, 1) := by decide +kernel
theorem dL_law_24 : decode cL_law 24 = .ok (.if_icmp .ge 163, 3) := by decide +kernel
theorem dL_law_27 : decode cL_law 27 = .ok (.aload_n 0, 1) := by decide +kernel
theorem dL_law_28 : decode cL_law 28 = .ok (.iload 4, 2) := by decide +kernel
theorem dL_law_30 : decode cL_law 30 = .ok (.invokestatic 68, 3) := by decide +kernel
theorem dL_law_33 : decode cL_law 33 = .ok (.istore 5, 2) := by decide +kernel
theorem dL_law_35 : decode cL_law 35 = .ok (.iload 5, 2) := by decide +kernel
theorem dL_law_37 : decode cL_law 37 = .ok (.iconst 3, 1) := by decide +kernel
theorem dL_law_38 : decode cL_law 38 = .ok (.invokestatic 9, 3) := by decide +kernel
theorem dL_law_41 : decode cL_law 41 = .ok (.istore 6, 2) := by decide +kernel
theorem dL_law_43 : decode cL_law 43 = .ok (.sipush 400, 3) := by decide +kernel
theorem dL_law_46 : decode cL_law 46 = .ok (.iload 5, 2) := by decide +kernel
theorem dL_law_48 : decode cL_law 48 = .ok (.iconst 2, 1) := by decide +kernel
theorem dL_law_49 : decode cL_law 49 = .ok (.ishr, 1) := by decide +kernel
theorem dL_law_50 : decode cL_law 50 = .ok (.sipush 900, 3) := by decide +kernel
theorem dL_law_53 : decode cL_law 53 = .ok (.invokestatic 9, 3) := by decide +kernel
theorem dL_law_56 : decode cL_law 56 = .ok (.iadd, 1) := by decide +kernel
theorem dL_law_57 : decode cL_law 57 = .ok (.istore 7, 2) := by decide +kernel
theorem dL_law_59 : decode cL_law 59 = .ok (.iload_n 3, 1) := by decide +kernel
theorem dL_law_60 : decode cL_law 60 = .ok (.ifCond .eq 57, 3) := by decide +kernel
theorem dL_law_63 : decode cL_law 63 = .ok (.aload_n 1, 1) := by decide +kernel
theorem dL_law_64 : decode cL_law 64 = .ok (.iload 6, 2) := by decide +kernel
theorem dL_law_66 : decode cL_law 66 = .ok (.iload 7, 2) := by decide +kernel
theorem dL_law_68 : decode cL_law 68 = .ok (.iconst 1, 1) := by decide +kernel
theorem dL_law_69 : decode cL_law 69 = .ok (.iload 5, 2) := by decide +kernel
theorem dL_law_71 : decode cL_law 71 = .ok (.bipush 12, 2) := by decide +kernel
theorem dL_law_73 : decode cL_law 73 = .ok (.ishr, 1) := by decide +kernel
theorem dL_law_74 : decode cL_law 74 = .ok (.bipush 80, 2) := by decide +kernel
theorem dL_law_76 : decode cL_law 76 = .ok (.invokestatic 9, 3) := by decide +kernel
theorem dL_law_79 : decode cL_law 79 = .ok (.iadd, 1) := by decide +kernel
theorem dL_law_80 : decode cL_law 80 = .ok (.invokevirtual 72, 3) := by decide +kernel
theorem dL_law_83 : decode cL_law 83 = .ok (.iload 4, 2) := by decide +kernel
theorem dL_law_85 : decode cL_law 85 = .ok (.if_icmp .ne 32, 3) := by decide +kernel
theorem dL_law_88 : decode cL_law 88 = .ok (.aload_n 2, 1) := by decide +kernel
theorem dL_law_89 : decode cL_law 89 = .ok (.iload 6, 2) := by decide +kernel
theorem dL_law_91 : decode cL_law 91 = .ok (.iload 7, 2) := by decide +kernel
theorem dL_law_93 : decode cL_law 93 = .ok (.iconst 1, 1) := by decide +kernel
theorem dL_law_94 : decode cL_law 94 = .ok (.iload 5, 2) := by decide +kernel
theorem dL_law_96 : decode cL_law 96 = .ok (.bipush 12, 2) := by decide +kernel
theorem dL_law_98 : decode cL_law 98 = .ok (.ishr, 1) := by decide +kernel
theorem dL_law_99 : decode cL_law 99 = .ok (.bipush 80, 2) := by decide +kernel
theorem dL_law_101 : decode cL_law 101 = .ok (.invokestatic 9, 3) := by decide +kernel
theorem dL_law_104 : decode cL_law 104 = .ok (.iadd, 1) := by decide +kernel
theorem dL_law_105 : decode cL_law 105 = .ok (.invokevirtual 72, 3) := by decide +kernel
theorem dL_law_108 : decode cL_law 108 = .ok (.iload 4, 2) := by decide +kernel
theorem dL_law_110 : decode cL_law 110 = .ok (.if_icmp .ne 7, 3) := by decide +kernel
theorem dL_law_113 : decode cL_law 113 = .ok (.iconst 1, 1) := by decide +kernel
theorem dL_law_114 : decode cL_law 114 = .ok (.goto 4, 3) := by decide +kernel
theorem dL_law_117 : decode cL_law 117 = .ok (.iconst 0, 1) := by decide +kernel
theorem dL_law_118 : decode cL_law 118 = .ok (.istore_n 3, 1) := by decide +kernel
theorem dL_law_119 : decode cL_law 119 = .ok (.iload_n 3, 1) := by decide +kernel
theorem dL_law_120 : decode cL_law 120 = .ok (.ifCond .eq 59, 3) := by decide +kernel
theorem dL_law_123 : decode cL_law 123 = .ok (.aload_n 1, 1) := by decide +kernel
theorem dL_law_124 : decode cL_law 124 = .ok (.bipush 10, 2) := by decide +kernel
theorem dL_law_126 : decode cL_law 126 = .ok (.aload_n 0, 1) := by decide +kernel
theorem dL_law_127 : decode cL_law 127 = .ok (.iconst 3, 1) := by decide +kernel
theorem dL_law_128 : decode cL_law 128 = .ok (.iload 4, 2) := by decide +kernel
theorem dL_law_130 : decode cL_law 130 = .ok (.iadd, 1) := by decide +kernel
theorem dL_law_131 : decode cL_law 131 = .ok (.invokestatic 68, 3) := by decide +kernel
theorem dL_law_134 : decode cL_law 134 = .ok (.sipush 400, 3) := by decide +kernel
theorem dL_law_137 : decode cL_law 137 = .ok (.invokestatic 9, 3) := by decide +kernel
theorem dL_law_140 : decode cL_law 140 = .ok (.iadd, 1) := by decide +kernel
theorem dL_law_141 : decode cL_law 141 = .ok (.invokevirtual 76, 3) := by decide +kernel
theorem dL_law_144 : decode cL_law 144 = .ok (.iload 4, 2) := by decide +kernel
theorem dL_law_146 : decode cL_law 146 = .ok (.if_icmp .ne 33, 3) := by decide +kernel
theorem dL_law_149 : decode cL_law 149 = .ok (.aload_n 2, 1) := by decide +kernel
theorem dL_law_150 : decode cL_law 150 = .ok (.bipush 10, 2) := by decide +kernel
theorem dL_law_152 : decode cL_law 152 = .ok (.aload_n 0, 1) := by decide +kernel
theorem dL_law_153 : decode cL_law 153 = .ok (.iconst 5, 1) := by decide +kernel
theorem dL_law_154 : decode cL_law 154 = .ok (.iload 4, 2) := by decide +kernel
theorem dL_law_156 : decode cL_law 156 = .ok (.isub, 1) := by decide +kernel
theorem dL_law_157 : decode cL_law 157 = .ok (.invokestatic 68, 3) := by decide +kernel
theorem dL_law_160 : decode cL_law 160 = .ok (.sipush 400, 3) := by decide +kernel
theorem dL_law_163 : decode cL_law 163 = .ok (.invokestatic 9, 3) := by decide +kernel
theorem dL_law_166 : decode cL_law 166 = .ok (.iadd, 1) := by decide +kernel
theorem dL_law_167 : decode cL_law 167 = .ok (.invokevirtual 76, 3) := by decide +kernel
theorem dL_law_170 : decode cL_law 170 = .ok (.iload 4, 2) := by decide +kernel
theorem dL_law_172 : decode cL_law 172 = .ok (.if_icmp .ne 7, 3) := by decide +kernel
theorem dL_law_175 : decode cL_law 175 = .ok (.iconst 1, 1) := by decide +kernel
theorem dL_law_176 : decode cL_law 176 = .ok (.goto 4, 3) := by decide +kernel
theorem dL_law_179 : decode cL_law 179 = .ok (.iconst 0, 1) := by decide +kernel
theorem dL_law_180 : decode cL_law 180 = .ok (.istore_n 3, 1) := by decide +kernel
theorem dL_law_181 : decode cL_law 181 = .ok (.iinc 4 1, 3) := by decide +kernel
theorem dL_law_184 : decode cL_law 184 = .ok (.goto (-163), 3) := by decide +kernel
theorem dL_law_187 : decode cL_law 187 = .ok (.iconst 0, 1) := by decide +kernel
theorem dL_law_188 : decode cL_law 188 = .ok (.istore 4, 2) := by decide +kernel
theorem dL_law_190 : decode cL_law 190 = .ok (.iload 4, 2) := by decide +kernel
theorem dL_law_192 : decode cL_law 192 = .ok (.iconst 3, 1) := by decide +kernel
theorem dL_law_193 : decode cL_law 193 = .ok (.if_icmp .ge 57, 3) := by decide +kernel
theorem dL_law_196 : decode cL_law 196 = .ok (.aload_n 0, 1) := by decide +kernel
theorem dL_law_197 : decode cL_law 197 = .ok (.bipush 6, 2) := by decide +kernel
theorem dL_law_199 : decode cL_law 199 = .ok (.iload 4, 2) := by decide +kernel
theorem dL_law_201 : decode cL_law 201 = .ok (.iadd, 1) := by decide +kernel
theorem dL_law_202 : decode cL_law 202 = .ok (.invokestatic 68, 3) := by decide +kernel
theorem dL_law_205 : decode cL_law 205 = .ok (.sipush 200, 3) := by decide +kernel
theorem dL_law_208 : decode cL_law 208 = .ok (.invokestatic 9, 3) := by decide +kernel
theorem dL_law_211 : decode cL_law 211 = .ok (.istore 5, 2) := by decide +kernel
theorem dL_law_213 : decode cL_law 213 = .ok (.iload_n 3, 1) := by decide +kernel
theorem dL_law_214 : decode cL_law 214 = .ok (.ifCond .eq 28, 3) := by decide +kernel
theorem dL_law_217 : decode cL_law 217 = .ok (.aload_n 1, 1) := by decide +kernel
theorem dL_law_218 : decode cL_law 218 = .ok (.iload 4, 2) := by decide +kernel
theorem dL_law_220 : decode cL_law 220 = .ok (.iload 5, 2) := by decide +kernel
theorem dL_law_222 : decode cL_law 222 = .ok (.sipush 200, 3) := by decide +kernel
theorem dL_law_225 : decode cL_law 225 = .ok (.iload 4, 2) := by decide +kernel
theorem dL_law_227 : decode cL_law 227 = .ok (.iadd, 1) := by decide +kernel
theorem dL_law_228 : decode cL_law 228 = .ok (.invokevirtual 79, 3) := by decide +kernel
theorem dL_law_231 : decode cL_law 231 = .ok (.iload 4, 2) := by decide +kernel
theorem dL_law_233 : decode cL_law 233 = .ok (.iconst 1, 1) := by decide +kernel
theorem dL_law_234 : decode cL_law 234 = .ok (.iadd, 1) := by decide +kernel
theorem dL_law_235 : decode cL_law 235 = .ok (.if_icmp .ne 7, 3) := by decide +kernel
theorem dL_law_238 : decode cL_law 238 = .ok (.iconst 1, 1) := by decide +kernel
theorem dL_law_239 : decode cL_law 239 = .ok (.goto 4, 3) := by decide +kernel
theorem dL_law_242 : decode cL_law 242 = .ok (.iconst 0, 1) := by decide +kernel
theorem dL_law_243 : decode cL_law 243 = .ok (.istore_n 3, 1) := by decide +kernel
theorem dL_law_244 : decode cL_law 244 = .ok (.iinc 4 1, 3) := by decide +kernel
theorem dL_law_247 : decode cL_law 247 = .ok (.goto (-57), 3) := by decide +kernel
theorem dL_law_250 : decode cL_law 250 = .ok (.iconst 0, 1) := by decide +kernel
theorem dL_law_251 : decode cL_law 251 = .ok (.istore 4, 2) := by decide +kernel
theorem dL_law_253 : decode cL_law 253 = .ok (.iload 4, 2) := by decide +kernel
theorem dL_law_255 : decode cL_law 255 = .ok (.iconst 3, 1) := by decide +kernel
theorem dL_law_256 : decode cL_law 256 = .ok (.if_icmp .ge 57, 3) := by decide +kernel
theorem dL_law_259 : decode cL_law 259 = .ok (.aload_n 0, 1) := by decide +kernel
theorem dL_law_260 : decode cL_law 260 = .ok (.bipush 8, 2) := by decide +kernel
theorem dL_law_262 : decode cL_law 262 = .ok (.iload 4, 2) := by decide +kernel
theorem dL_law_264 : decode cL_law 264 = .ok (.isub, 1) := by decide +kernel
theorem dL_law_265 : decode cL_law 265 = .ok (.invokestatic 68, 3) := by decide +kernel
theorem dL_law_268 : decode cL_law 268 = .ok (.sipush 200, 3) := by decide +kernel
theorem dL_law_271 : decode cL_law 271 = .ok (.invokestatic 9, 3) := by decide +kernel
theorem dL_law_274 : decode cL_law 274 = .ok (.istore 5, 2) := by decide +kernel
theorem dL_law_276 : decode cL_law 276 = .ok (.iload_n 3, 1) := by decide +kernel
theorem dL_law_277 : decode cL_law 277 = .ok (.ifCond .eq 28, 3) := by decide +kernel
theorem dL_law_280 : decode cL_law 280 = .ok (.aload_n 2, 1) := by decide +kernel
theorem dL_law_281 : decode cL_law 281 = .ok (.iload 4, 2) := by decide +kernel
theorem dL_law_283 : decode cL_law 283 = .ok (.iload 5, 2) := by decide +kernel
theorem dL_law_285 : decode cL_law 285 = .ok (.sipush 202, 3) := by decide +kernel
theorem dL_law_288 : decode cL_law 288 = .ok (.iload 4, 2) := by decide +kernel
theorem dL_law_290 : decode cL_law 290 = .ok (.isub, 1) := by decide +kernel
theorem dL_law_291 : decode cL_law 291 = .ok (.invokevirtual 79, 3) := by decide +kernel
theorem dL_law_294 : decode cL_law 294 = .ok (.iload 4, 2) := by decide +kernel
theorem dL_law_296 : decode cL_law 296 = .ok (.iconst 1, 1) := by decide +kernel
theorem dL_law_297 : decode cL_law 297 = .ok (.iadd, 1) := by decide +kernel
theorem dL_law_298 : decode cL_law 298 = .ok (.if_icmp .ne 7, 3) := by decide +kernel
theorem dL_law_301 : decode cL_law 301 = .ok (.iconst 1, 1) := by decide +kernel
theorem dL_law_302 : decode cL_law 302 = .ok (.goto 4, 3) := by decide +kernel
theorem dL_law_305 : decode cL_law 305 = .ok (.iconst 0, 1) := by decide +kernel
theorem dL_law_306 : decode cL_law 306 = .ok (.istore_n 3, 1) := by decide +kernel
theorem dL_law_307 : decode cL_law 307 = .ok (.iinc 4 1, 3) := by decide +kernel
theorem dL_law_310 : decode cL_law 310 = .ok (.goto (-57), 3) := by decide +kernel
theorem dL_law_313 : decode cL_law 313 = .ok (.iload_n 3, 1) := by decide +kernel
theorem dL_law_314 : decode cL_law 314 = .ok (.ifCond .eq 47, 3) := by decide +kernel
theorem dL_law_317 : decode cL_law 317 = .ok (.aload_n 1, 1) := by decide +kernel
theorem dL_law_318 : decode cL_law 318 = .ok (.bipush 18, 2) := by decide +kernel
theorem dL_law_320 : decode cL_law 320 = .ok (.aload_n 0, 1) := by decide +kernel
theorem dL_law_321 : decode cL_law 321 = .ok (.bipush 9, 2) := by decide +kernel
theorem dL_law_323 : decode cL_law 323 = .ok (.invokestatic 68, 3) := by decide +kernel
theorem dL_law_326 : decode cL_law 326 = .ok (.bipush 60, 2) := by decide +kernel
theorem dL_law_328 : decode cL_law 328 = .ok (.invokestatic 9, 3) := by decide +kernel
theorem dL_law_331 : decode cL_law 331 = .ok (.invokevirtual 40, 3) := by decide +kernel
theorem dL_law_334 : decode cL_law 334 = .ok (.ifCond .ne 27, 3) := by decide +kernel
theorem dL_law_337 : decode cL_law 337 = .ok (.aload_n 2, 1) := by decide +kernel
theorem dL_law_338 : decode cL_law 338 = .ok (.bipush 18, 2) := by decide +kernel
theorem dL_law_340 : decode cL_law 340 = .ok (.aload_n 0, 1) := by decide +kernel
theorem dL_law_341 : decode cL_law 341 = .ok (.bipush 9, 2) := by decide +kernel
theorem dL_law_343 : decode cL_law 343 = .ok (.invokestatic 68, 3) := by decide +kernel
theorem dL_law_346 : decode cL_law 346 = .ok (.bipush 60, 2) := by decide +kernel
theorem dL_law_348 : decode cL_law 348 = .ok (.invokestatic 9, 3) := by decide +kernel
theorem dL_law_351 : decode cL_law 351 = .ok (.invokevirtual 40, 3) := by decide +kernel
theorem dL_law_354 : decode cL_law 354 = .ok (.ifCond .ne 7, 3) := by decide +kernel
theorem dL_law_357 : decode cL_law 357 = .ok (.iconst 1, 1) := by decide +kernel
theorem dL_law_358 : decode cL_law 358 = .ok (.goto 4, 3) := by decide +kernel
theorem dL_law_361 : decode cL_law 361 = .ok (.iconst 0, 1) := by decide +kernel
theorem dL_law_362 : decode cL_law 362 = .ok (.istore_n 3, 1) := by decide +kernel
theorem dL_law_363 : decode cL_law 363 = .ok (.bipush 10, 2) := by decide +kernel
theorem dL_law_365 : decode cL_law 365 = .ok (.istore 4, 2) := by decide +kernel
theorem dL_law_367 : decode cL_law 367 = .ok (.iload 4, 2) := by decide +kernel
theorem dL_law_369 : decode cL_law 369 = .ok (.bipush 44, 2) := by decide +kernel
theorem dL_law_371 : decode cL_law 371 = .ok (.if_icmp .ge 48, 3) := by decide +kernel
theorem dL_law_374 : decode cL_law 374 = .ok (.iload_n 3, 1) := by decide +kernel
theorem dL_law_375 : decode cL_law 375 = .ok (.ifCond .eq 44, 3) := by decide +kernel
theorem dL_law_378 : decode cL_law 378 = .ok (.aload_n 1, 1) := by decide +kernel
theorem dL_law_379 : decode cL_law 379 = .ok (.aload_n 2, 1) := by decide +kernel
theorem dL_law_380 : decode cL_law 380 = .ok (.aload_n 0, 1) := by decide +kernel
theorem dL_law_381 : decode cL_law 381 = .ok (.iload 4, 2) := by decide +kernel
theorem dL_law_383 : decode cL_law 383 = .ok (.invokestatic 68, 3) := by decide +kernel
theorem dL_law_386 : decode cL_law 386 = .ok (.invokestatic 82, 3) := by decide +kernel
theorem dL_law_389 : decode cL_law 389 = .ok (.ifCond .eq 22, 3) := by decide +kernel
theorem dL_law_392 : decode cL_law 392 = .ok (.aload_n 1, 1) := by decide +kernel
theorem dL_law_393 : decode cL_law 393 = .ok (.aload_n 2, 1) := by decide +kernel
theorem dL_law_394 : decode cL_law 394 = .ok (.invokestatic 86, 3) := by decide +kernel
theorem dL_law_397 : decode cL_law 397 = .ok (.ifCond .eq 14, 3) := by decide +kernel
theorem dL_law_400 : decode cL_law 400 = .ok (.aload_n 1, 1) := by decide +kernel
theorem dL_law_401 : decode cL_law 401 = .ok (.invokestatic 90, 3) := by decide +kernel
theorem dL_law_404 : decode cL_law 404 = .ok (.ifCond .eq 7, 3) := by decide +kernel
theorem dL_law_407 : decode cL_law 407 = .ok (.iconst 1, 1) := by decide +kernel
theorem dL_law_408 : decode cL_law 408 = .ok (.goto 4, 3) := by decide +kernel
theorem dL_law_411 : decode cL_law 411 = .ok (.iconst 0, 1) := by decide +kernel
theorem dL_law_412 : decode cL_law 412 = .ok (.istore_n 3, 1) := by decide +kernel
theorem dL_law_413 : decode cL_law 413 = .ok (.iinc 4 1, 3) := by decide +kernel
theorem dL_law_416 : decode cL_law 416 = .ok (.goto (-49), 3) := by decide +kernel
theorem dL_law_419 : decode cL_law 419 = .ok (.iload_n 3, 1) := by decide +kernel
theorem dL_law_420 : decode cL_law 420 = .ok (.ifCond .eq 14, 3) := by decide +kernel
theorem dL_law_423 : decode cL_law 423 = .ok (.aload_n 1, 1) := by decide +kernel
theorem dL_law_424 : decode cL_law 424 = .ok (.invokestatic 94, 3) := by decide +kernel
theorem dL_law_427 : decode cL_law 427 = .ok (.ifCond .eq 7, 3) := by decide +kernel
theorem dL_law_430 : decode cL_law 430 = .ok (.iconst 1, 1) := by decide +kernel
theorem dL_law_431 : decode cL_law 431 = .ok (.goto 4, 3) := by decide +kernel
theorem dL_law_434 : decode cL_law 434 = .ok (.iconst 0, 1) := by decide +kernel
theorem dL_law_435 : decode cL_law 435 = .ok (.ireturn, 1) := by decide +kernel
