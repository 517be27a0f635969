/-! the law, decoded -/
theorem dl_0 : decode code 0 = .ok (.new 7, 3) := by decide +kernel
theorem dl_3 : decode code 3 = .ok (.dup, 1) := by decide +kernel
theorem dl_4 : decode code 4 = .ok (.invokespecial 9, 3) := by decide +kernel
theorem dl_7 : decode code 7 = .ok (.astore_n 1, 1) := by decide +kernel
theorem dl_8 : decode code 8 = .ok (.new 10, 3) := by decide +kernel
theorem dl_11 : decode code 11 = .ok (.dup, 1) := by decide +kernel
theorem dl_12 : decode code 12 = .ok (.invokespecial 12, 3) := by decide +kernel
theorem dl_15 : decode code 15 = .ok (.astore_n 2, 1) := by decide +kernel
theorem dl_16 : decode code 16 = .ok (.iconst 0, 1) := by decide +kernel
theorem dl_17 : decode code 17 = .ok (.istore_n 3, 1) := by decide +kernel
theorem dl_18 : decode code 18 = .ok (.iload_n 3, 1) := by decide +kernel
theorem dl_19 : decode code 19 = .ok (.aload_n 0, 1) := by decide +kernel
theorem dl_20 : decode code 20 = .ok (.arraylength, 1) := by decide +kernel
theorem dl_21 : decode code 21 = .ok (.iconst 4, 1) := by decide +kernel
theorem dl_22 : decode code 22 = .ok (.isub, 1) := by decide +kernel
theorem dl_23 : decode code 23 = .ok (.if_icmp .gt 645, 3) := by decide +kernel
theorem dl_26 : decode code 26 = .ok (.aload_n 0, 1) := by decide +kernel
theorem dl_27 : decode code 27 = .ok (.iload_n 3, 1) := by decide +kernel
theorem dl_28 : decode code 28 = .ok (.iaload, 1) := by decide +kernel
theorem dl_29 : decode code 29 = .ok (.bipush 31, 2) := by decide +kernel
theorem dl_31 : decode code 31 = .ok (.iand, 1) := by decide +kernel
theorem dl_32 : decode code 32 = .ok (.tableswitch 630 0 21 #[104, 137, 176, 189, 212, 225, 248, 261, 274, 287, 310, 343, 386, 419, 442, 455, 514, 537, 550, 591, 604, 617], 104) := by decide +kernel
theorem dl_136 : decode code 136 = .ok (.aload_n 1, 1) := by decide +kernel
theorem dl_137 : decode code 137 = .ok (.aload_n 0, 1) := by decide +kernel
theorem dl_138 : decode code 138 = .ok (.iload_n 3, 1) := by decide +kernel
theorem dl_139 : decode code 139 = .ok (.iconst 1, 1) := by decide +kernel
theorem dl_140 : decode code 140 = .ok (.iadd, 1) := by decide +kernel
theorem dl_141 : decode code 141 = .ok (.iaload, 1) := by decide +kernel
theorem dl_142 : decode code 142 = .ok (.aload_n 0, 1) := by decide +kernel
theorem dl_143 : decode code 143 = .ok (.iload_n 3, 1) := by decide +kernel
theorem dl_144 : decode code 144 = .ok (.iconst 2, 1) := by decide +kernel
theorem dl_145 : decode code 145 = .ok (.iadd, 1) := by decide +kernel
theorem dl_146 : decode code 146 = .ok (.iaload, 1) := by decide +kernel
theorem dl_147 : decode code 147 = .ok (.invokevirtual 13, 3) := by decide +kernel
theorem dl_150 : decode code 150 = .ok (.aload_n 2, 1) := by decide +kernel
theorem dl_151 : decode code 151 = .ok (.aload_n 0, 1) := by decide +kernel
theorem dl_152 : decode code 152 = .ok (.iload_n 3, 1) := by decide +kernel
theorem dl_153 : decode code 153 = .ok (.iconst 1, 1) := by decide +kernel
theorem dl_154 : decode code 154 = .ok (.iadd, 1) := by decide +kernel
theorem dl_155 : decode code 155 = .ok (.iaload, 1) := by decide +kernel
theorem dl_156 : decode code 156 = .ok (.aload_n 0, 1) := by decide +kernel
theorem dl_157 : decode code 157 = .ok (.iload_n 3, 1) := by decide +kernel
theorem dl_158 : decode code 158 = .ok (.iconst 2, 1) := by decide +kernel
theorem dl_159 : decode code 159 = .ok (.iadd, 1) := by decide +kernel
theorem dl_160 : decode code 160 = .ok (.iaload, 1) := by decide +kernel
theorem dl_161 : decode code 161 = .ok (.invokevirtual 17, 3) := by decide +kernel
theorem dl_164 : decode code 164 = .ok (.if_icmp .eq 498, 3) := by decide +kernel
theorem dl_167 : decode code 167 = .ok (.iconst 0, 1) := by decide +kernel
theorem dl_168 : decode code 168 = .ok (.ireturn, 1) := by decide +kernel
theorem dl_169 : decode code 169 = .ok (.aload_n 1, 1) := by decide +kernel
theorem dl_170 : decode code 170 = .ok (.aload_n 0, 1) := by decide +kernel
theorem dl_171 : decode code 171 = .ok (.iload_n 3, 1) := by decide +kernel
theorem dl_172 : decode code 172 = .ok (.iconst 1, 1) := by decide +kernel
theorem dl_173 : decode code 173 = .ok (.iadd, 1) := by decide +kernel
theorem dl_174 : decode code 174 = .ok (.iaload, 1) := by decide +kernel
theorem dl_175 : decode code 175 = .ok (.ifCond .eq 7, 3) := by decide +kernel
theorem dl_178 : decode code 178 = .ok (.iconst 1, 1) := by decide +kernel
theorem dl_179 : decode code 179 = .ok (.goto 4, 3) := by decide +kernel
theorem dl_182 : decode code 182 = .ok (.iconst 0, 1) := by decide +kernel
theorem dl_183 : decode code 183 = .ok (.invokevirtual 18, 3) := by decide +kernel
theorem dl_186 : decode code 186 = .ok (.aload_n 2, 1) := by decide +kernel
theorem dl_187 : decode code 187 = .ok (.aload_n 0, 1) := by decide +kernel
theorem dl_188 : decode code 188 = .ok (.iload_n 3, 1) := by decide +kernel
theorem dl_189 : decode code 189 = .ok (.iconst 1, 1) := by decide +kernel
theorem dl_190 : decode code 190 = .ok (.iadd, 1) := by decide +kernel
theorem dl_191 : decode code 191 = .ok (.iaload, 1) := by decide +kernel
theorem dl_192 : decode code 192 = .ok (.ifCond .eq 7, 3) := by decide +kernel
theorem dl_195 : decode code 195 = .ok (.iconst 1, 1) := by decide +kernel
theorem dl_196 : decode code 196 = .ok (.goto 4, 3) := by decide +kernel
theorem dl_199 : decode code 199 = .ok (.iconst 0, 1) := by decide +kernel
theorem dl_200 : decode code 200 = .ok (.invokevirtual 22, 3) := by decide +kernel
theorem dl_203 : decode code 203 = .ok (.if_icmp .eq 459, 3) := by decide +kernel
theorem dl_206 : decode code 206 = .ok (.iconst 0, 1) := by decide +kernel
theorem dl_207 : decode code 207 = .ok (.ireturn, 1) := by decide +kernel
theorem dl_208 : decode code 208 = .ok (.aload_n 1, 1) := by decide +kernel
theorem dl_209 : decode code 209 = .ok (.invokevirtual 23, 3) := by decide +kernel
theorem dl_212 : decode code 212 = .ok (.aload_n 2, 1) := by decide +kernel
theorem dl_213 : decode code 213 = .ok (.invokevirtual 27, 3) := by decide +kernel
theorem dl_216 : decode code 216 = .ok (.if_icmp .eq 446, 3) := by decide +kernel
theorem dl_219 : decode code 219 = .ok (.iconst 0, 1) := by decide +kernel
theorem dl_220 : decode code 220 = .ok (.ireturn, 1) := by decide +kernel
theorem dl_221 : decode code 221 = .ok (.aload_n 1, 1) := by decide +kernel
theorem dl_222 : decode code 222 = .ok (.aload_n 0, 1) := by decide +kernel
theorem dl_223 : decode code 223 = .ok (.iload_n 3, 1) := by decide +kernel
theorem dl_224 : decode code 224 = .ok (.iconst 1, 1) := by decide +kernel
theorem dl_225 : decode code 225 = .ok (.iadd, 1) := by decide +kernel
theorem dl_226 : decode code 226 = .ok (.iaload, 1) := by decide +kernel
theorem dl_227 : decode code 227 = .ok (.invokevirtual 28, 3) := by decide +kernel
theorem dl_230 : decode code 230 = .ok (.aload_n 2, 1) := by decide +kernel
theorem dl_231 : decode code 231 = .ok (.aload_n 0, 1) := by decide +kernel
theorem dl_232 : decode code 232 = .ok (.iload_n 3, 1) := by decide +kernel
theorem dl_233 : decode code 233 = .ok (.iconst 1, 1) := by decide +kernel
theorem dl_234 : decode code 234 = .ok (.iadd, 1) := by decide +kernel
theorem dl_235 : decode code 235 = .ok (.iaload, 1) := by decide +kernel
theorem dl_236 : decode code 236 = .ok (.invokevirtual 32, 3) := by decide +kernel
theorem dl_239 : decode code 239 = .ok (.if_icmp .eq 423, 3) := by decide +kernel
theorem dl_242 : decode code 242 = .ok (.iconst 0, 1) := by decide +kernel
theorem dl_243 : decode code 243 = .ok (.ireturn, 1) := by decide +kernel
theorem dl_244 : decode code 244 = .ok (.aload_n 1, 1) := by decide +kernel
theorem dl_245 : decode code 245 = .ok (.invokevirtual 33, 3) := by decide +kernel
theorem dl_248 : decode code 248 = .ok (.aload_n 2, 1) := by decide +kernel
theorem dl_249 : decode code 249 = .ok (.invokevirtual 36, 3) := by decide +kernel
theorem dl_252 : decode code 252 = .ok (.if_icmp .eq 410, 3) := by decide +kernel
theorem dl_255 : decode code 255 = .ok (.iconst 0, 1) := by decide +kernel
theorem dl_256 : decode code 256 = .ok (.ireturn, 1) := by decide +kernel
theorem dl_257 : decode code 257 = .ok (.aload_n 1, 1) := by decide +kernel
theorem dl_258 : decode code 258 = .ok (.aload_n 0, 1) := by decide +kernel
theorem dl_259 : decode code 259 = .ok (.iload_n 3, 1) := by decide +kernel
theorem dl_260 : decode code 260 = .ok (.iconst 1, 1) := by decide +kernel
theorem dl_261 : decode code 261 = .ok (.iadd, 1) := by decide +kernel
theorem dl_262 : decode code 262 = .ok (.iaload, 1) := by decide +kernel
theorem dl_263 : decode code 263 = .ok (.invokevirtual 37, 3) := by decide +kernel
theorem dl_266 : decode code 266 = .ok (.aload_n 2, 1) := by decide +kernel
theorem dl_267 : decode code 267 = .ok (.aload_n 0, 1) := by decide +kernel
theorem dl_268 : decode code 268 = .ok (.iload_n 3, 1) := by decide +kernel
theorem dl_269 : decode code 269 = .ok (.iconst 1, 1) := by decide +kernel
theorem dl_270 : decode code 270 = .ok (.iadd, 1) := by decide +kernel
theorem dl_271 : decode code 271 = .ok (.iaload, 1) := by decide +kernel
theorem dl_272 : decode code 272 = .ok (.invokevirtual 40, 3) := by decide +kernel
theorem dl_275 : decode code 275 = .ok (.if_icmp .eq 387, 3) := by decide +kernel
theorem dl_278 : decode code 278 = .ok (.iconst 0, 1) := by decide +kernel
theorem dl_279 : decode code 279 = .ok (.ireturn, 1) := by decide +kernel
theorem dl_280 : decode code 280 = .ok (.aload_n 1, 1) := by decide +kernel
theorem dl_281 : decode code 281 = .ok (.invokevirtual 41, 3) := by decide +kernel
theorem dl_284 : decode code 284 = .ok (.aload_n 2, 1) := by decide +kernel
theorem dl_285 : decode code 285 = .ok (.invokevirtual 44, 3) := by decide +kernel
theorem dl_288 : decode code 288 = .ok (.if_icmp .eq 374, 3) := by decide +kernel
theorem dl_291 : decode code 291 = .ok (.iconst 0, 1) := by decide +kernel
theorem dl_292 : decode code 292 = .ok (.ireturn, 1) := by decide +kernel
theorem dl_293 : decode code 293 = .ok (.aload_n 1, 1) := by decide +kernel
theorem dl_294 : decode code 294 = .ok (.invokevirtual 45, 3) := by decide +kernel
theorem dl_297 : decode code 297 = .ok (.aload_n 2, 1) := by decide +kernel
theorem dl_298 : decode code 298 = .ok (.invokevirtual 48, 3) := by decide +kernel
theorem dl_301 : decode code 301 = .ok (.if_icmp .eq 361, 3) := by decide +kernel
theorem dl_304 : decode code 304 = .ok (.iconst 0, 1) := by decide +kernel
theorem dl_305 : decode code 305 = .ok (.ireturn, 1) := by decide +kernel
theorem dl_306 : decode code 306 = .ok (.aload_n 1, 1) := by decide +kernel
theorem dl_307 : decode code 307 = .ok (.invokevirtual 49, 3) := by decide +kernel
theorem dl_310 : decode code 310 = .ok (.aload_n 2, 1) := by decide +kernel
theorem dl_311 : decode code 311 = .ok (.invokevirtual 52, 3) := by decide +kernel
theorem dl_314 : decode code 314 = .ok (.if_icmp .eq 348, 3) := by decide +kernel
theorem dl_317 : decode code 317 = .ok (.iconst 0, 1) := by decide +kernel
theorem dl_318 : decode code 318 = .ok (.ireturn, 1) := by decide +kernel
theorem dl_319 : decode code 319 = .ok (.aload_n 1, 1) := by decide +kernel
theorem dl_320 : decode code 320 = .ok (.aload_n 0, 1) := by decide +kernel
theorem dl_321 : decode code 321 = .ok (.iload_n 3, 1) := by decide +kernel
theorem dl_322 : decode code 322 = .ok (.iconst 1, 1) := by decide +kernel
theorem dl_323 : decode code 323 = .ok (.iadd, 1) := by decide +kernel
theorem dl_324 : decode code 324 = .ok (.iaload, 1) := by decide +kernel
theorem dl_325 : decode code 325 = .ok (.invokevirtual 53, 3) := by decide +kernel
theorem dl_328 : decode code 328 = .ok (.aload_n 2, 1) := by decide +kernel
theorem dl_329 : decode code 329 = .ok (.aload_n 0, 1) := by decide +kernel
theorem dl_330 : decode code 330 = .ok (.iload_n 3, 1) := by decide +kernel
theorem dl_331 : decode code 331 = .ok (.iconst 1, 1) := by decide +kernel
theorem dl_332 : decode code 332 = .ok (.iadd, 1) := by decide +kernel
theorem dl_333 : decode code 333 = .ok (.iaload, 1) := by decide +kernel
theorem dl_334 : decode code 334 = .ok (.invokevirtual 56, 3) := by decide +kernel
theorem dl_337 : decode code 337 = .ok (.if_icmp .eq 325, 3) := by decide +kernel
theorem dl_340 : decode code 340 = .ok (.iconst 0, 1) := by decide +kernel
theorem dl_341 : decode code 341 = .ok (.ireturn, 1) := by decide +kernel
theorem dl_342 : decode code 342 = .ok (.aload_n 1, 1) := by decide +kernel
theorem dl_343 : decode code 343 = .ok (.aload_n 0, 1) := by decide +kernel
theorem dl_344 : decode code 344 = .ok (.iload_n 3, 1) := by decide +kernel
theorem dl_345 : decode code 345 = .ok (.iconst 1, 1) := by decide +kernel
theorem dl_346 : decode code 346 = .ok (.iadd, 1) := by decide +kernel
theorem dl_347 : decode code 347 = .ok (.iaload, 1) := by decide +kernel
theorem dl_348 : decode code 348 = .ok (.aload_n 0, 1) := by decide +kernel
theorem dl_349 : decode code 349 = .ok (.iload_n 3, 1) := by decide +kernel
theorem dl_350 : decode code 350 = .ok (.iconst 2, 1) := by decide +kernel
theorem dl_351 : decode code 351 = .ok (.iadd, 1) := by decide +kernel
theorem dl_352 : decode code 352 = .ok (.iaload, 1) := by decide +kernel
theorem dl_353 : decode code 353 = .ok (.invokevirtual 57, 3) := by decide +kernel
theorem dl_356 : decode code 356 = .ok (.aload_n 2, 1) := by decide +kernel
theorem dl_357 : decode code 357 = .ok (.aload_n 0, 1) := by decide +kernel
theorem dl_358 : decode code 358 = .ok (.iload_n 3, 1) := by decide +kernel
theorem dl_359 : decode code 359 = .ok (.iconst 1, 1) := by decide +kernel
theorem dl_360 : decode code 360 = .ok (.iadd, 1) := by decide +kernel
theorem dl_361 : decode code 361 = .ok (.iaload, 1) := by decide +kernel
theorem dl_362 : decode code 362 = .ok (.aload_n 0, 1) := by decide +kernel
theorem dl_363 : decode code 363 = .ok (.iload_n 3, 1) := by decide +kernel
theorem dl_364 : decode code 364 = .ok (.iconst 2, 1) := by decide +kernel
theorem dl_365 : decode code 365 = .ok (.iadd, 1) := by decide +kernel
theorem dl_366 : decode code 366 = .ok (.iaload, 1) := by decide +kernel
theorem dl_367 : decode code 367 = .ok (.invokevirtual 60, 3) := by decide +kernel
theorem dl_370 : decode code 370 = .ok (.if_icmp .eq 292, 3) := by decide +kernel
theorem dl_373 : decode code 373 = .ok (.iconst 0, 1) := by decide +kernel
theorem dl_374 : decode code 374 = .ok (.ireturn, 1) := by decide +kernel
theorem dl_375 : decode code 375 = .ok (.aload_n 1, 1) := by decide +kernel
theorem dl_376 : decode code 376 = .ok (.aload_n 0, 1) := by decide +kernel
theorem dl_377 : decode code 377 = .ok (.iload_n 3, 1) := by decide +kernel
theorem dl_378 : decode code 378 = .ok (.iconst 1, 1) := by decide +kernel
theorem dl_379 : decode code 379 = .ok (.iadd, 1) := by decide +kernel
theorem dl_380 : decode code 380 = .ok (.iaload, 1) := by decide +kernel
theorem dl_381 : decode code 381 = .ok (.aload_n 0, 1) := by decide +kernel
theorem dl_382 : decode code 382 = .ok (.iload_n 3, 1) := by decide +kernel
