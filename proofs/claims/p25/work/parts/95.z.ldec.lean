/-! the law and its lot, decoded -/
theorem dl_0 : decode code 0 = .ok (.new 14, 3) := by decide +kernel
theorem dl_3 : decode code 3 = .ok (.dup, 1) := by decide +kernel
theorem dl_4 : decode code 4 = .ok (.invokespecial 99, 3) := by decide +kernel
theorem dl_7 : decode code 7 = .ok (.astore_n 1, 1) := by decide +kernel
theorem dl_8 : decode code 8 = .ok (.aload_n 1, 1) := by decide +kernel
theorem dl_9 : decode code 9 = .ok (.invokestatic 100, 3) := by decide +kernel
theorem dl_12 : decode code 12 = .ok (.ifCond .eq 40, 3) := by decide +kernel
theorem dl_15 : decode code 15 = .ok (.aload_n 1, 1) := by decide +kernel
theorem dl_16 : decode code 16 = .ok (.iconst 0, 1) := by decide +kernel
theorem dl_17 : decode code 17 = .ok (.invokestatic 104, 3) := by decide +kernel
theorem dl_20 : decode code 20 = .ok (.ifCond .eq 32, 3) := by decide +kernel
theorem dl_23 : decode code 23 = .ok (.aload_n 1, 1) := by decide +kernel
theorem dl_24 : decode code 24 = .ok (.invokevirtual 107, 3) := by decide +kernel
theorem dl_27 : decode code 27 = .ok (.bipush (-2), 2) := by decide +kernel
theorem dl_29 : decode code 29 = .ok (.if_icmp .ne 23, 3) := by decide +kernel
theorem dl_32 : decode code 32 = .ok (.aload_n 1, 1) := by decide +kernel
theorem dl_33 : decode code 33 = .ok (.invokevirtual 110, 3) := by decide +kernel
theorem dl_36 : decode code 36 = .ok (.bipush (-2), 2) := by decide +kernel
theorem dl_38 : decode code 38 = .ok (.if_icmp .ne 14, 3) := by decide +kernel
theorem dl_41 : decode code 41 = .ok (.aload_n 1, 1) := by decide +kernel
theorem dl_42 : decode code 42 = .ok (.invokevirtual 113, 3) := by decide +kernel
theorem dl_45 : decode code 45 = .ok (.ifCond .ne 7, 3) := by decide +kernel
theorem dl_48 : decode code 48 = .ok (.iconst 1, 1) := by decide +kernel
theorem dl_49 : decode code 49 = .ok (.goto 4, 3) := by decide +kernel
theorem dl_52 : decode code 52 = .ok (.iconst 0, 1) := by decide +kernel
theorem dl_53 : decode code 53 = .ok (.istore_n 2, 1) := by decide +kernel
theorem dl_54 : decode code 54 = .ok (.aload_n 1, 1) := by decide +kernel
theorem dl_55 : decode code 55 = .ok (.invokestatic 56, 3) := by decide +kernel
theorem dl_58 : decode code 58 = .ok (.lstore_n 3, 1) := by decide +kernel
theorem dl_59 : decode code 59 = .ok (.iconst 0, 1) := by decide +kernel
theorem dl_60 : decode code 60 = .ok (.istore 5, 2) := by decide +kernel
theorem dl_62 : decode code 62 = .ok (.iload 5, 2) := by decide +kernel
theorem dl_64 : decode code 64 = .ok (.bipush 50, 2) := by decide +kernel
theorem dl_66 : decode code 66 = .ok (.if_icmp .ge 315, 3) := by decide +kernel
theorem dl_69 : decode code 69 = .ok (.iload_n 2, 1) := by decide +kernel
theorem dl_70 : decode code 70 = .ok (.ifCond .eq 311, 3) := by decide +kernel
theorem dl_73 : decode code 73 = .ok (.aload_n 0, 1) := by decide +kernel
theorem dl_74 : decode code 74 = .ok (.iconst 2, 1) := by decide +kernel
theorem dl_75 : decode code 75 = .ok (.iload 5, 2) := by decide +kernel
theorem dl_77 : decode code 77 = .ok (.imul, 1) := by decide +kernel
theorem dl_78 : decode code 78 = .ok (.invokestatic 116, 3) := by decide +kernel
theorem dl_81 : decode code 81 = .ok (.istore 6, 2) := by decide +kernel
theorem dl_83 : decode code 83 = .ok (.aload_n 0, 1) := by decide +kernel
theorem dl_84 : decode code 84 = .ok (.iconst 2, 1) := by decide +kernel
theorem dl_85 : decode code 85 = .ok (.iload 5, 2) := by decide +kernel
theorem dl_87 : decode code 87 = .ok (.imul, 1) := by decide +kernel
theorem dl_88 : decode code 88 = .ok (.iconst 1, 1) := by decide +kernel
theorem dl_89 : decode code 89 = .ok (.iadd, 1) := by decide +kernel
theorem dl_90 : decode code 90 = .ok (.invokestatic 116, 3) := by decide +kernel
theorem dl_93 : decode code 93 = .ok (.istore 7, 2) := by decide +kernel
theorem dl_95 : decode code 95 = .ok (.aload_n 1, 1) := by decide +kernel
theorem dl_96 : decode code 96 = .ok (.invokestatic 56, 3) := by decide +kernel
theorem dl_99 : decode code 99 = .ok (.lstore 8, 2) := by decide +kernel
theorem dl_101 : decode code 101 = .ok (.aload_n 1, 1) := by decide +kernel
theorem dl_102 : decode code 102 = .ok (.bipush 15, 2) := by decide +kernel
theorem dl_104 : decode code 104 = .ok (.invokevirtual 13, 3) := by decide +kernel
theorem dl_107 : decode code 107 = .ok (.istore 10, 2) := by decide +kernel
theorem dl_109 : decode code 109 = .ok (.aload_n 1, 1) := by decide +kernel
theorem dl_110 : decode code 110 = .ok (.iload 6, 2) := by decide +kernel
theorem dl_112 : decode code 112 = .ok (.iload 7, 2) := by decide +kernel
theorem dl_114 : decode code 114 = .ok (.invokestatic 120, 3) := by decide +kernel
theorem dl_117 : decode code 117 = .ok (.ifCond .eq 38, 3) := by decide +kernel
theorem dl_120 : decode code 120 = .ok (.iload 5, 2) := by decide +kernel
theorem dl_122 : decode code 122 = .ok (.iconst 3, 1) := by decide +kernel
theorem dl_123 : decode code 123 = .ok (.irem, 1) := by decide +kernel
theorem dl_124 : decode code 124 = .ok (.ifCond .gt 10, 3) := by decide +kernel
theorem dl_127 : decode code 127 = .ok (.aload_n 1, 1) := by decide +kernel
theorem dl_128 : decode code 128 = .ok (.invokestatic 100, 3) := by decide +kernel
theorem dl_131 : decode code 131 = .ok (.ifCond .eq 24, 3) := by decide +kernel
theorem dl_134 : decode code 134 = .ok (.iload 5, 2) := by decide +kernel
theorem dl_136 : decode code 136 = .ok (.iconst 4, 1) := by decide +kernel
theorem dl_137 : decode code 137 = .ok (.irem, 1) := by decide +kernel
theorem dl_138 : decode code 138 = .ok (.iconst 2, 1) := by decide +kernel
theorem dl_139 : decode code 139 = .ok (.if_icmp .ne 12, 3) := by decide +kernel
theorem dl_142 : decode code 142 = .ok (.aload_n 1, 1) := by decide +kernel
theorem dl_143 : decode code 143 = .ok (.iload 7, 2) := by decide +kernel
theorem dl_145 : decode code 145 = .ok (.invokestatic 104, 3) := by decide +kernel
theorem dl_148 : decode code 148 = .ok (.ifCond .eq 7, 3) := by decide +kernel
theorem dl_151 : decode code 151 = .ok (.iconst 1, 1) := by decide +kernel
theorem dl_152 : decode code 152 = .ok (.goto 4, 3) := by decide +kernel
theorem dl_155 : decode code 155 = .ok (.iconst 0, 1) := by decide +kernel
theorem dl_156 : decode code 156 = .ok (.istore_n 2, 1) := by decide +kernel
theorem dl_157 : decode code 157 = .ok (.aload_n 1, 1) := by decide +kernel
theorem dl_158 : decode code 158 = .ok (.bipush 15, 2) := by decide +kernel
theorem dl_160 : decode code 160 = .ok (.invokevirtual 13, 3) := by decide +kernel
theorem dl_163 : decode code 163 = .ok (.istore 11, 2) := by decide +kernel
theorem dl_165 : decode code 165 = .ok (.iload_n 2, 1) := by decide +kernel
theorem dl_166 : decode code 166 = .ok (.ifCond .eq 39, 3) := by decide +kernel
theorem dl_169 : decode code 169 = .ok (.iload 11, 2) := by decide +kernel
theorem dl_171 : decode code 171 = .ok (.iload 10, 2) := by decide +kernel
theorem dl_173 : decode code 173 = .ok (.if_icmp .ne 19, 3) := by decide +kernel
theorem dl_176 : decode code 176 = .ok (.iload 10, 2) := by decide +kernel
theorem dl_178 : decode code 178 = .ok (.iconst 4, 1) := by decide +kernel
theorem dl_179 : decode code 179 = .ok (.if_icmp .eq 22, 3) := by decide +kernel
theorem dl_182 : decode code 182 = .ok (.aload_n 1, 1) := by decide +kernel
theorem dl_183 : decode code 183 = .ok (.invokestatic 56, 3) := by decide +kernel
theorem dl_186 : decode code 186 = .ok (.lload 8, 2) := by decide +kernel
theorem dl_188 : decode code 188 = .ok (.lcmp, 1) := by decide +kernel
theorem dl_189 : decode code 189 = .ok (.ifCond .eq 12, 3) := by decide +kernel
theorem dl_192 : decode code 192 = .ok (.iload 11, 2) := by decide +kernel
theorem dl_194 : decode code 194 = .ok (.iload 10, 2) := by decide +kernel
theorem dl_196 : decode code 196 = .ok (.iconst 1, 1) := by decide +kernel
theorem dl_197 : decode code 197 = .ok (.iadd, 1) := by decide +kernel
theorem dl_198 : decode code 198 = .ok (.if_icmp .ne 7, 3) := by decide +kernel
theorem dl_201 : decode code 201 = .ok (.iconst 1, 1) := by decide +kernel
theorem dl_202 : decode code 202 = .ok (.goto 4, 3) := by decide +kernel
theorem dl_205 : decode code 205 = .ok (.iconst 0, 1) := by decide +kernel
theorem dl_206 : decode code 206 = .ok (.istore_n 2, 1) := by decide +kernel
theorem dl_207 : decode code 207 = .ok (.iload_n 2, 1) := by decide +kernel
theorem dl_208 : decode code 208 = .ok (.ifCond .eq 49, 3) := by decide +kernel
theorem dl_211 : decode code 211 = .ok (.iload 11, 2) := by decide +kernel
theorem dl_213 : decode code 213 = .ok (.iload 10, 2) := by decide +kernel
theorem dl_215 : decode code 215 = .ok (.iconst 1, 1) := by decide +kernel
theorem dl_216 : decode code 216 = .ok (.iadd, 1) := by decide +kernel
theorem dl_217 : decode code 217 = .ok (.if_icmp .ne 40, 3) := by decide +kernel
theorem dl_220 : decode code 220 = .ok (.iload 7, 2) := by decide +kernel
theorem dl_222 : decode code 222 = .ok (.bipush 8, 2) := by decide +kernel
theorem dl_224 : decode code 224 = .ok (.ishr, 1) := by decide +kernel
theorem dl_225 : decode code 225 = .ok (.iconst 3, 1) := by decide +kernel
theorem dl_226 : decode code 226 = .ok (.invokestatic 39, 3) := by decide +kernel
theorem dl_229 : decode code 229 = .ok (.ifCond .ne 28, 3) := by decide +kernel
theorem dl_232 : decode code 232 = .ok (.aload_n 1, 1) := by decide +kernel
theorem dl_233 : decode code 233 = .ok (.invokevirtual 107, 3) := by decide +kernel
theorem dl_236 : decode code 236 = .ok (.iload 10, 2) := by decide +kernel
theorem dl_238 : decode code 238 = .ok (.if_icmp .ne 17, 3) := by decide +kernel
theorem dl_241 : decode code 241 = .ok (.aload_n 1, 1) := by decide +kernel
theorem dl_242 : decode code 242 = .ok (.invokestatic 56, 3) := by decide +kernel
theorem dl_245 : decode code 245 = .ok (.lload 8, 2) := by decide +kernel
theorem dl_247 : decode code 247 = .ok (.lcmp, 1) := by decide +kernel
theorem dl_248 : decode code 248 = .ok (.ifCond .ne 7, 3) := by decide +kernel
theorem dl_251 : decode code 251 = .ok (.iconst 1, 1) := by decide +kernel
theorem dl_252 : decode code 252 = .ok (.goto 4, 3) := by decide +kernel
theorem dl_255 : decode code 255 = .ok (.iconst 0, 1) := by decide +kernel
theorem dl_256 : decode code 256 = .ok (.istore_n 2, 1) := by decide +kernel
theorem dl_257 : decode code 257 = .ok (.iload_n 2, 1) := by decide +kernel
theorem dl_258 : decode code 258 = .ok (.ifCond .eq 68, 3) := by decide +kernel
theorem dl_261 : decode code 261 = .ok (.iload 5, 2) := by decide +kernel
theorem dl_263 : decode code 263 = .ok (.bipush 15, 2) := by decide +kernel
theorem dl_265 : decode code 265 = .ok (.irem, 1) := by decide +kernel
theorem dl_266 : decode code 266 = .ok (.bipush 14, 2) := by decide +kernel
theorem dl_268 : decode code 268 = .ok (.if_icmp .ne 58, 3) := by decide +kernel
theorem dl_271 : decode code 271 = .ok (.aload_n 1, 1) := by decide +kernel
theorem dl_272 : decode code 272 = .ok (.invokevirtual 110, 3) := by decide +kernel
theorem dl_275 : decode code 275 = .ok (.istore 12, 2) := by decide +kernel
theorem dl_277 : decode code 277 = .ok (.iload 12, 2) := by decide +kernel
theorem dl_279 : decode code 279 = .ok (.aload_n 1, 1) := by decide +kernel
theorem dl_280 : decode code 280 = .ok (.iconst 2, 1) := by decide +kernel
theorem dl_281 : decode code 281 = .ok (.invokevirtual 13, 3) := by decide +kernel
theorem dl_284 : decode code 284 = .ok (.if_icmp .ne 35, 3) := by decide +kernel
theorem dl_287 : decode code 287 = .ok (.aload_n 1, 1) := by decide +kernel
theorem dl_288 : decode code 288 = .ok (.invokestatic 56, 3) := by decide +kernel
theorem dl_291 : decode code 291 = .ok (.lload_n 3, 1) := by decide +kernel
theorem dl_292 : decode code 292 = .ok (.lcmp, 1) := by decide +kernel
theorem dl_293 : decode code 293 = .ok (.ifCond .ne 26, 3) := by decide +kernel
theorem dl_296 : decode code 296 = .ok (.aload_n 1, 1) := by decide +kernel
theorem dl_297 : decode code 297 = .ok (.invokevirtual 107, 3) := by decide +kernel
theorem dl_300 : decode code 300 = .ok (.ifCond .lt 19, 3) := by decide +kernel
theorem dl_303 : decode code 303 = .ok (.aload_n 1, 1) := by decide +kernel
theorem dl_304 : decode code 304 = .ok (.invokevirtual 113, 3) := by decide +kernel
theorem dl_307 : decode code 307 = .ok (.aload_n 1, 1) := by decide +kernel
theorem dl_308 : decode code 308 = .ok (.iconst 2, 1) := by decide +kernel
theorem dl_309 : decode code 309 = .ok (.invokevirtual 13, 3) := by decide +kernel
theorem dl_312 : decode code 312 = .ok (.if_icmp .ne 7, 3) := by decide +kernel
theorem dl_315 : decode code 315 = .ok (.iconst 1, 1) := by decide +kernel
theorem dl_316 : decode code 316 = .ok (.goto 4, 3) := by decide +kernel
theorem dl_319 : decode code 319 = .ok (.iconst 0, 1) := by decide +kernel
theorem dl_320 : decode code 320 = .ok (.istore_n 2, 1) := by decide +kernel
theorem dl_321 : decode code 321 = .ok (.aload_n 1, 1) := by decide +kernel
theorem dl_322 : decode code 322 = .ok (.invokestatic 56, 3) := by decide +kernel
theorem dl_325 : decode code 325 = .ok (.lstore_n 3, 1) := by decide +kernel
theorem dl_326 : decode code 326 = .ok (.iload_n 2, 1) := by decide +kernel
theorem dl_327 : decode code 327 = .ok (.ifCond .eq 48, 3) := by decide +kernel
theorem dl_330 : decode code 330 = .ok (.iload 5, 2) := by decide +kernel
theorem dl_332 : decode code 332 = .ok (.bipush 11, 2) := by decide +kernel
theorem dl_334 : decode code 334 = .ok (.irem, 1) := by decide +kernel
theorem dl_335 : decode code 335 = .ok (.bipush 10, 2) := by decide +kernel
theorem dl_337 : decode code 337 = .ok (.if_icmp .ne 38, 3) := by decide +kernel
theorem dl_340 : decode code 340 = .ok (.aload_n 1, 1) := by decide +kernel
theorem dl_341 : decode code 341 = .ok (.bipush 15, 2) := by decide +kernel
theorem dl_343 : decode code 343 = .ok (.invokevirtual 13, 3) := by decide +kernel
theorem dl_346 : decode code 346 = .ok (.istore 12, 2) := by decide +kernel
theorem dl_348 : decode code 348 = .ok (.aload_n 1, 1) := by decide +kernel
theorem dl_349 : decode code 349 = .ok (.invokevirtual 107, 3) := by decide +kernel
theorem dl_352 : decode code 352 = .ok (.iload 12, 2) := by decide +kernel
theorem dl_354 : decode code 354 = .ok (.ifCond .ne 8, 3) := by decide +kernel
theorem dl_357 : decode code 357 = .ok (.bipush (-2), 2) := by decide +kernel
theorem dl_359 : decode code 359 = .ok (.goto 7, 3) := by decide +kernel
theorem dl_362 : decode code 362 = .ok (.iload 12, 2) := by decide +kernel
theorem dl_364 : decode code 364 = .ok (.iconst 1, 1) := by decide +kernel
theorem dl_365 : decode code 365 = .ok (.isub, 1) := by decide +kernel
theorem dl_366 : decode code 366 = .ok (.if_icmp .ne 7, 3) := by decide +kernel
theorem dl_369 : decode code 369 = .ok (.iconst 1, 1) := by decide +kernel
theorem dl_370 : decode code 370 = .ok (.goto 4, 3) := by decide +kernel
theorem dl_373 : decode code 373 = .ok (.iconst 0, 1) := by decide +kernel
theorem dl_374 : decode code 374 = .ok (.istore_n 2, 1) := by decide +kernel
theorem dl_375 : decode code 375 = .ok (.iinc 5 1, 3) := by decide +kernel
theorem dl_378 : decode code 378 = .ok (.goto (-316), 3) := by decide +kernel
theorem dl_381 : decode code 381 = .ok (.iload_n 2, 1) := by decide +kernel
theorem dl_382 : decode code 382 = .ok (.ifCond .eq 14, 3) := by decide +kernel
theorem dl_385 : decode code 385 = .ok (.aload_n 1, 1) := by decide +kernel
theorem dl_386 : decode code 386 = .ok (.invokestatic 100, 3) := by decide +kernel
theorem dl_389 : decode code 389 = .ok (.ifCond .eq 7, 3) := by decide +kernel
theorem dl_392 : decode code 392 = .ok (.iconst 1, 1) := by decide +kernel
theorem dl_393 : decode code 393 = .ok (.goto 4, 3) := by decide +kernel
theorem dl_396 : decode code 396 = .ok (.iconst 0, 1) := by decide +kernel
theorem dl_397 : decode code 397 = .ok (.ireturn, 1) := by decide +kernel
theorem dt_0 : decode cL_lot 0 = .ok (.iload_n 1, 1) := by decide +kernel
theorem dt_1 : decode cL_lot 1 = .ok (.aload_n 0, 1) := by decide +kernel
theorem dt_2 : decode cL_lot 2 = .ok (.arraylength, 1) := by decide +kernel
theorem dt_3 : decode cL_lot 3 = .ok (.if_icmp .ge 9, 3) := by decide +kernel
theorem dt_6 : decode cL_lot 6 = .ok (.aload_n 0, 1) := by decide +kernel
theorem dt_7 : decode cL_lot 7 = .ok (.iload_n 1, 1) := by decide +kernel
theorem dt_8 : decode cL_lot 8 = .ok (.iaload, 1) := by decide +kernel
theorem dt_9 : decode cL_lot 9 = .ok (.goto 15, 3) := by decide +kernel
theorem dt_12 : decode cL_lot 12 = .ok (.ldc 7, 2) := by decide +kernel
theorem dt_14 : decode cL_lot 14 = .ok (.iload_n 1, 1) := by decide +kernel
theorem dt_15 : decode cL_lot 15 = .ok (.sipush 4349, 3) := by decide +kernel
theorem dt_18 : decode cL_lot 18 = .ok (.iadd, 1) := by decide +kernel
theorem dt_19 : decode cL_lot 19 = .ok (.imul, 1) := by decide +kernel
theorem dt_20 : decode cL_lot 20 = .ok (.sipush 4111, 3) := by decide +kernel
theorem dt_23 : decode cL_lot 23 = .ok (.iadd, 1) := by decide +kernel
theorem dt_24 : decode cL_lot 24 = .ok (.ireturn, 1) := by decide +kernel
theorem lk_13 : Cond.methodLink R_law 13 (yM 100) ∈ lwG := lwG_in (List.mem_of_getElem? (i := 258) (by decide +kernel)) rfl
theorem lk_39 : Cond.methodLink R_law 39 (yM 105) ∈ lwG := lwG_in (List.mem_of_getElem? (i := 383) (by decide +kernel)) rfl
theorem lk_56 : Cond.methodLink R_law 56 (yM 109) ∈ lwG := lwG_in (List.mem_of_getElem? (i := 387) (by decide +kernel)) rfl
theorem lk_99 : Cond.methodLink R_law 99 (yM 86) ∈ lwG := lwG_in (List.mem_of_getElem? (i := 25) (by decide +kernel)) rfl
theorem lk_100 : Cond.methodLink R_law 100 (yM 110) ∈ lwG := lwG_in (List.mem_of_getElem? (i := 428) (by decide +kernel)) rfl
theorem lk_104 : Cond.methodLink R_law 104 (yM 111) ∈ lwG := lwG_in (List.mem_of_getElem? (i := 451) (by decide +kernel)) rfl
theorem lk_107 : Cond.methodLink R_law 107 (yM 106) ∈ lwG := lwG_in (List.mem_of_getElem? (i := 332) (by decide +kernel)) rfl
theorem lk_110 : Cond.methodLink R_law 110 (yM 108) ∈ lwG := lwG_in (List.mem_of_getElem? (i := 367) (by decide +kernel)) rfl
theorem lk_113 : Cond.methodLink R_law 113 (yM 107) ∈ lwG := lwG_in (List.mem_of_getElem? (i := 362) (by decide +kernel)) rfl
theorem lk_120 : Cond.methodLink R_law 120 (yM 116) ∈ lwG := lwG_in (List.mem_of_getElem? (i := 527) (by decide +kernel)) rfl
