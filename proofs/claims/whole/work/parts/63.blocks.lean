/-! The law's blocks, one a call -/
theorem J.e11 {B : Nat} {σ τ : Mem} (h : J B σ τ) (hB : B < 2 ^ 30) : (τ 0 11).toNatClampNeg < 2 ^ 30 ∧ τ 0 11 = nI (τ 0 11).toNatClampNeg := by
  obtain ⟨a, b, d, -, hY⟩ := h.ix
  have hb : b ≤ B := hY.2.2.1
  have e : τ 0 11 = nI b := hY.1
  rw [e, nI_clamp (by omega)]
  exact ⟨by omega, rfl⟩
section
variable {p : Program} {l : Launch} {e : Env} {s : State} {m : MethodId} {args : Array Value} {below : List Frame} {meth : Method} {c : Code} {H : Heap} {locs : List Loc} {cells slots : Nat} {Q : State → Prop}
variable {ls : Array Slot} {D : va_G} {cI cF cZ cJ : ClassId} {ad ad2 : Nat → Nat} {o : Nat} {σ τ : Mem} {f : Nat → Int64} {b L i B : Nat} {xs : Nat → Int32}
theorem d_L_law_0 : decode b_L_law 0 = .ok (.new 8, 3) := by decide +kernel
theorem d_L_law_3 : decode b_L_law 3 = .ok (.dup, 1) := by decide +kernel
theorem d_L_law_4 : decode b_L_law 4 = .ok (.invokespecial 59, 3) := by decide +kernel
theorem d_L_law_7 : decode b_L_law 7 = .ok (.astore_n 1, 1) := by decide +kernel
theorem d_L_law_8 : decode b_L_law 8 = .ok (.new 60, 3) := by decide +kernel
theorem d_L_law_11 : decode b_L_law 11 = .ok (.dup, 1) := by decide +kernel
theorem d_L_law_12 : decode b_L_law 12 = .ok (.invokespecial 62, 3) := by decide +kernel
theorem d_L_law_15 : decode b_L_law 15 = .ok (.astore_n 2, 1) := by decide +kernel
theorem d_L_law_16 : decode b_L_law 16 = .ok (.iconst 1, 1) := by decide +kernel
theorem d_L_law_17 : decode b_L_law 17 = .ok (.newarray .long, 2) := by decide +kernel
theorem d_L_law_19 : decode b_L_law 19 = .ok (.astore_n 3, 1) := by decide +kernel
theorem d_L_law_20 : decode b_L_law 20 = .ok (.iconst 0, 1) := by decide +kernel
theorem d_L_law_21 : decode b_L_law 21 = .ok (.istore 4, 2) := by decide +kernel
theorem d_L_law_23 : decode b_L_law 23 = .ok (.iload 4, 2) := by decide +kernel
theorem d_L_law_25 : decode b_L_law 25 = .ok (.aload_n 0, 1) := by decide +kernel
theorem d_L_law_26 : decode b_L_law 26 = .ok (.arraylength, 1) := by decide +kernel
theorem d_L_law_27 : decode b_L_law 27 = .ok (.iconst 4, 1) := by decide +kernel
theorem d_L_law_28 : decode b_L_law 28 = .ok (.isub, 1) := by decide +kernel
theorem d_L_law_29 : decode b_L_law 29 = .ok (.if_icmp .gt 915, 3) := by decide +kernel
theorem d_L_law_32 : decode b_L_law 32 = .ok (.aload_n 0, 1) := by decide +kernel
theorem d_L_law_33 : decode b_L_law 33 = .ok (.iload 4, 2) := by decide +kernel
theorem d_L_law_35 : decode b_L_law 35 = .ok (.iaload, 1) := by decide +kernel
theorem d_L_law_36 : decode b_L_law 36 = .ok (.bipush 31, 2) := by decide +kernel
theorem d_L_law_38 : decode b_L_law 38 = .ok (.iand, 1) := by decide +kernel
theorem d_L_law_39 : decode b_L_law 39 = .ok (.tableswitch 899 0 18 #[89, 145, 201, 281, 349, 417, 473, 517, 561, 605, 618, 643, 699, 767, 780, 793, 829, 842, 886], 89) := by decide +kernel
theorem d_L_law_128 : decode b_L_law 128 = .ok (.aload_n 1, 1) := by decide +kernel
theorem d_L_law_129 : decode b_L_law 129 = .ok (.aload_n 0, 1) := by decide +kernel
theorem d_L_law_130 : decode b_L_law 130 = .ok (.iload 4, 2) := by decide +kernel
theorem d_L_law_132 : decode b_L_law 132 = .ok (.iconst 1, 1) := by decide +kernel
theorem d_L_law_133 : decode b_L_law 133 = .ok (.iadd, 1) := by decide +kernel
theorem d_L_law_134 : decode b_L_law 134 = .ok (.iaload, 1) := by decide +kernel
theorem d_L_law_135 : decode b_L_law 135 = .ok (.aload_n 3, 1) := by decide +kernel
theorem d_L_law_136 : decode b_L_law 136 = .ok (.invokestatic 63, 3) := by decide +kernel
theorem d_L_law_139 : decode b_L_law 139 = .ok (.istore 5, 2) := by decide +kernel
theorem d_L_law_141 : decode b_L_law 141 = .ok (.aload_n 2, 1) := by decide +kernel
theorem d_L_law_142 : decode b_L_law 142 = .ok (.aload_n 0, 1) := by decide +kernel
theorem d_L_law_143 : decode b_L_law 143 = .ok (.iload 4, 2) := by decide +kernel
theorem d_L_law_145 : decode b_L_law 145 = .ok (.iconst 1, 1) := by decide +kernel
theorem d_L_law_146 : decode b_L_law 146 = .ok (.iadd, 1) := by decide +kernel
theorem d_L_law_147 : decode b_L_law 147 = .ok (.iaload, 1) := by decide +kernel
theorem d_L_law_148 : decode b_L_law 148 = .ok (.invokevirtual 68, 3) := by decide +kernel
theorem d_L_law_151 : decode b_L_law 151 = .ok (.istore 6, 2) := by decide +kernel
theorem d_L_law_153 : decode b_L_law 153 = .ok (.aload_n 2, 1) := by decide +kernel
theorem d_L_law_154 : decode b_L_law 154 = .ok (.invokevirtual 69, 3) := by decide +kernel
theorem d_L_law_157 : decode b_L_law 157 = .ok (.iload 5, 2) := by decide +kernel
theorem d_L_law_159 : decode b_L_law 159 = .ok (.if_icmp .eq 5, 3) := by decide +kernel
theorem d_L_law_162 : decode b_L_law 162 = .ok (.iconst 0, 1) := by decide +kernel
theorem d_L_law_163 : decode b_L_law 163 = .ok (.ireturn, 1) := by decide +kernel
theorem d_L_law_164 : decode b_L_law 164 = .ok (.iload 5, 2) := by decide +kernel
theorem d_L_law_166 : decode b_L_law 166 = .ok (.ifCond .ne 15, 3) := by decide +kernel
theorem d_L_law_169 : decode b_L_law 169 = .ok (.aload_n 3, 1) := by decide +kernel
theorem d_L_law_170 : decode b_L_law 170 = .ok (.iconst 0, 1) := by decide +kernel
theorem d_L_law_171 : decode b_L_law 171 = .ok (.laload, 1) := by decide +kernel
theorem d_L_law_172 : decode b_L_law 172 = .ok (.iload 6, 2) := by decide +kernel
theorem d_L_law_174 : decode b_L_law 174 = .ok (.i2l, 1) := by decide +kernel
theorem d_L_law_175 : decode b_L_law 175 = .ok (.lcmp, 1) := by decide +kernel
theorem d_L_law_176 : decode b_L_law 176 = .ok (.ifCond .eq 5, 3) := by decide +kernel
theorem d_L_law_179 : decode b_L_law 179 = .ok (.iconst 0, 1) := by decide +kernel
theorem d_L_law_180 : decode b_L_law 180 = .ok (.ireturn, 1) := by decide +kernel
theorem d_L_law_181 : decode b_L_law 181 = .ok (.goto 757, 3) := by decide +kernel
theorem d_L_law_184 : decode b_L_law 184 = .ok (.aload_n 1, 1) := by decide +kernel
theorem d_L_law_185 : decode b_L_law 185 = .ok (.aload_n 0, 1) := by decide +kernel
theorem d_L_law_186 : decode b_L_law 186 = .ok (.iload 4, 2) := by decide +kernel
theorem d_L_law_188 : decode b_L_law 188 = .ok (.iconst 1, 1) := by decide +kernel
theorem d_L_law_189 : decode b_L_law 189 = .ok (.iadd, 1) := by decide +kernel
theorem d_L_law_190 : decode b_L_law 190 = .ok (.iaload, 1) := by decide +kernel
theorem d_L_law_191 : decode b_L_law 191 = .ok (.aload_n 3, 1) := by decide +kernel
theorem d_L_law_192 : decode b_L_law 192 = .ok (.invokestatic 72, 3) := by decide +kernel
theorem d_L_law_195 : decode b_L_law 195 = .ok (.istore 5, 2) := by decide +kernel
theorem d_L_law_197 : decode b_L_law 197 = .ok (.aload_n 2, 1) := by decide +kernel
theorem d_L_law_198 : decode b_L_law 198 = .ok (.aload_n 0, 1) := by decide +kernel
theorem d_L_law_199 : decode b_L_law 199 = .ok (.iload 4, 2) := by decide +kernel
theorem d_L_law_201 : decode b_L_law 201 = .ok (.iconst 1, 1) := by decide +kernel
theorem d_L_law_202 : decode b_L_law 202 = .ok (.iadd, 1) := by decide +kernel
theorem d_L_law_203 : decode b_L_law 203 = .ok (.iaload, 1) := by decide +kernel
theorem d_L_law_204 : decode b_L_law 204 = .ok (.invokevirtual 74, 3) := by decide +kernel
theorem d_L_law_207 : decode b_L_law 207 = .ok (.istore 6, 2) := by decide +kernel
theorem d_L_law_209 : decode b_L_law 209 = .ok (.aload_n 2, 1) := by decide +kernel
theorem d_L_law_210 : decode b_L_law 210 = .ok (.invokevirtual 69, 3) := by decide +kernel
theorem d_L_law_213 : decode b_L_law 213 = .ok (.iload 5, 2) := by decide +kernel
theorem d_L_law_215 : decode b_L_law 215 = .ok (.if_icmp .eq 5, 3) := by decide +kernel
theorem d_L_law_218 : decode b_L_law 218 = .ok (.iconst 0, 1) := by decide +kernel
theorem d_L_law_219 : decode b_L_law 219 = .ok (.ireturn, 1) := by decide +kernel
theorem d_L_law_220 : decode b_L_law 220 = .ok (.iload 5, 2) := by decide +kernel
theorem d_L_law_222 : decode b_L_law 222 = .ok (.ifCond .ne 15, 3) := by decide +kernel
theorem d_L_law_225 : decode b_L_law 225 = .ok (.aload_n 3, 1) := by decide +kernel
theorem d_L_law_226 : decode b_L_law 226 = .ok (.iconst 0, 1) := by decide +kernel
theorem d_L_law_227 : decode b_L_law 227 = .ok (.laload, 1) := by decide +kernel
theorem d_L_law_228 : decode b_L_law 228 = .ok (.iload 6, 2) := by decide +kernel
theorem d_L_law_230 : decode b_L_law 230 = .ok (.i2l, 1) := by decide +kernel
theorem d_L_law_231 : decode b_L_law 231 = .ok (.lcmp, 1) := by decide +kernel
theorem d_L_law_232 : decode b_L_law 232 = .ok (.ifCond .eq 5, 3) := by decide +kernel
theorem d_L_law_235 : decode b_L_law 235 = .ok (.iconst 0, 1) := by decide +kernel
theorem d_L_law_236 : decode b_L_law 236 = .ok (.ireturn, 1) := by decide +kernel
theorem d_L_law_237 : decode b_L_law 237 = .ok (.goto 701, 3) := by decide +kernel
theorem d_L_law_240 : decode b_L_law 240 = .ok (.aload_n 1, 1) := by decide +kernel
theorem d_L_law_241 : decode b_L_law 241 = .ok (.aload_n 0, 1) := by decide +kernel
theorem d_L_law_242 : decode b_L_law 242 = .ok (.iload 4, 2) := by decide +kernel
theorem d_L_law_244 : decode b_L_law 244 = .ok (.iconst 1, 1) := by decide +kernel
theorem d_L_law_245 : decode b_L_law 245 = .ok (.iadd, 1) := by decide +kernel
theorem d_L_law_246 : decode b_L_law 246 = .ok (.iaload, 1) := by decide +kernel
theorem d_L_law_247 : decode b_L_law 247 = .ok (.aload_n 0, 1) := by decide +kernel
theorem d_L_law_248 : decode b_L_law 248 = .ok (.iload 4, 2) := by decide +kernel
theorem d_L_law_250 : decode b_L_law 250 = .ok (.iconst 2, 1) := by decide +kernel
theorem d_L_law_251 : decode b_L_law 251 = .ok (.iadd, 1) := by decide +kernel
theorem d_L_law_252 : decode b_L_law 252 = .ok (.iaload, 1) := by decide +kernel
theorem d_L_law_253 : decode b_L_law 253 = .ok (.aload_n 0, 1) := by decide +kernel
theorem d_L_law_254 : decode b_L_law 254 = .ok (.iload 4, 2) := by decide +kernel
theorem d_L_law_256 : decode b_L_law 256 = .ok (.iconst 3, 1) := by decide +kernel
theorem d_L_law_257 : decode b_L_law 257 = .ok (.iadd, 1) := by decide +kernel
theorem d_L_law_258 : decode b_L_law 258 = .ok (.iaload, 1) := by decide +kernel
theorem d_L_law_259 : decode b_L_law 259 = .ok (.aload_n 3, 1) := by decide +kernel
theorem d_L_law_260 : decode b_L_law 260 = .ok (.invokestatic 75, 3) := by decide +kernel
theorem d_L_law_263 : decode b_L_law 263 = .ok (.istore 5, 2) := by decide +kernel
theorem d_L_law_265 : decode b_L_law 265 = .ok (.aload_n 2, 1) := by decide +kernel
theorem d_L_law_266 : decode b_L_law 266 = .ok (.aload_n 0, 1) := by decide +kernel
theorem d_L_law_267 : decode b_L_law 267 = .ok (.iload 4, 2) := by decide +kernel
theorem d_L_law_269 : decode b_L_law 269 = .ok (.iconst 1, 1) := by decide +kernel
theorem d_L_law_270 : decode b_L_law 270 = .ok (.iadd, 1) := by decide +kernel
theorem d_L_law_271 : decode b_L_law 271 = .ok (.iaload, 1) := by decide +kernel
theorem d_L_law_272 : decode b_L_law 272 = .ok (.aload_n 0, 1) := by decide +kernel
theorem d_L_law_273 : decode b_L_law 273 = .ok (.iload 4, 2) := by decide +kernel
theorem d_L_law_275 : decode b_L_law 275 = .ok (.iconst 2, 1) := by decide +kernel
theorem d_L_law_276 : decode b_L_law 276 = .ok (.iadd, 1) := by decide +kernel
theorem d_L_law_277 : decode b_L_law 277 = .ok (.iaload, 1) := by decide +kernel
theorem d_L_law_278 : decode b_L_law 278 = .ok (.aload_n 0, 1) := by decide +kernel
theorem d_L_law_279 : decode b_L_law 279 = .ok (.iload 4, 2) := by decide +kernel
theorem d_L_law_281 : decode b_L_law 281 = .ok (.iconst 3, 1) := by decide +kernel
theorem d_L_law_282 : decode b_L_law 282 = .ok (.iadd, 1) := by decide +kernel
theorem d_L_law_283 : decode b_L_law 283 = .ok (.iaload, 1) := by decide +kernel
theorem d_L_law_284 : decode b_L_law 284 = .ok (.invokevirtual 78, 3) := by decide +kernel
theorem d_L_law_287 : decode b_L_law 287 = .ok (.istore 6, 2) := by decide +kernel
theorem d_L_law_289 : decode b_L_law 289 = .ok (.aload_n 2, 1) := by decide +kernel
theorem d_L_law_290 : decode b_L_law 290 = .ok (.invokevirtual 69, 3) := by decide +kernel
theorem d_L_law_293 : decode b_L_law 293 = .ok (.iload 5, 2) := by decide +kernel
theorem d_L_law_295 : decode b_L_law 295 = .ok (.if_icmp .eq 5, 3) := by decide +kernel
theorem d_L_law_298 : decode b_L_law 298 = .ok (.iconst 0, 1) := by decide +kernel
theorem d_L_law_299 : decode b_L_law 299 = .ok (.ireturn, 1) := by decide +kernel
theorem d_L_law_300 : decode b_L_law 300 = .ok (.iload 5, 2) := by decide +kernel
theorem d_L_law_302 : decode b_L_law 302 = .ok (.ifCond .ne 15, 3) := by decide +kernel
theorem d_L_law_305 : decode b_L_law 305 = .ok (.aload_n 3, 1) := by decide +kernel
theorem d_L_law_306 : decode b_L_law 306 = .ok (.iconst 0, 1) := by decide +kernel
theorem d_L_law_307 : decode b_L_law 307 = .ok (.laload, 1) := by decide +kernel
theorem d_L_law_308 : decode b_L_law 308 = .ok (.iload 6, 2) := by decide +kernel
theorem d_L_law_310 : decode b_L_law 310 = .ok (.i2l, 1) := by decide +kernel
theorem d_L_law_311 : decode b_L_law 311 = .ok (.lcmp, 1) := by decide +kernel
theorem d_L_law_312 : decode b_L_law 312 = .ok (.ifCond .eq 5, 3) := by decide +kernel
theorem d_L_law_315 : decode b_L_law 315 = .ok (.iconst 0, 1) := by decide +kernel
theorem d_L_law_316 : decode b_L_law 316 = .ok (.ireturn, 1) := by decide +kernel
theorem d_L_law_317 : decode b_L_law 317 = .ok (.goto 621, 3) := by decide +kernel
theorem d_L_law_320 : decode b_L_law 320 = .ok (.aload_n 1, 1) := by decide +kernel
theorem d_L_law_321 : decode b_L_law 321 = .ok (.aload_n 0, 1) := by decide +kernel
theorem d_L_law_322 : decode b_L_law 322 = .ok (.iload 4, 2) := by decide +kernel
theorem d_L_law_324 : decode b_L_law 324 = .ok (.iconst 1, 1) := by decide +kernel
theorem d_L_law_325 : decode b_L_law 325 = .ok (.iadd, 1) := by decide +kernel
theorem d_L_law_326 : decode b_L_law 326 = .ok (.iaload, 1) := by decide +kernel
theorem d_L_law_327 : decode b_L_law 327 = .ok (.aload_n 0, 1) := by decide +kernel
theorem d_L_law_328 : decode b_L_law 328 = .ok (.iload 4, 2) := by decide +kernel
theorem d_L_law_330 : decode b_L_law 330 = .ok (.iconst 2, 1) := by decide +kernel
theorem d_L_law_331 : decode b_L_law 331 = .ok (.iadd, 1) := by decide +kernel
theorem d_L_law_332 : decode b_L_law 332 = .ok (.iaload, 1) := by decide +kernel
theorem d_L_law_333 : decode b_L_law 333 = .ok (.aload_n 3, 1) := by decide +kernel
theorem d_L_law_334 : decode b_L_law 334 = .ok (.invokestatic 79, 3) := by decide +kernel
theorem d_L_law_337 : decode b_L_law 337 = .ok (.istore 5, 2) := by decide +kernel
theorem d_L_law_339 : decode b_L_law 339 = .ok (.aload_n 2, 1) := by decide +kernel
theorem d_L_law_340 : decode b_L_law 340 = .ok (.aload_n 0, 1) := by decide +kernel
theorem d_L_law_341 : decode b_L_law 341 = .ok (.iload 4, 2) := by decide +kernel
theorem d_L_law_343 : decode b_L_law 343 = .ok (.iconst 1, 1) := by decide +kernel
theorem d_L_law_344 : decode b_L_law 344 = .ok (.iadd, 1) := by decide +kernel
theorem d_L_law_345 : decode b_L_law 345 = .ok (.iaload, 1) := by decide +kernel
theorem d_L_law_346 : decode b_L_law 346 = .ok (.aload_n 0, 1) := by decide +kernel
theorem d_L_law_347 : decode b_L_law 347 = .ok (.iload 4, 2) := by decide +kernel
theorem d_L_law_349 : decode b_L_law 349 = .ok (.iconst 2, 1) := by decide +kernel
theorem d_L_law_350 : decode b_L_law 350 = .ok (.iadd, 1) := by decide +kernel
theorem d_L_law_351 : decode b_L_law 351 = .ok (.iaload, 1) := by decide +kernel
theorem d_L_law_352 : decode b_L_law 352 = .ok (.invokevirtual 82, 3) := by decide +kernel
theorem d_L_law_355 : decode b_L_law 355 = .ok (.istore 6, 2) := by decide +kernel
theorem d_L_law_357 : decode b_L_law 357 = .ok (.aload_n 2, 1) := by decide +kernel
theorem d_L_law_358 : decode b_L_law 358 = .ok (.invokevirtual 69, 3) := by decide +kernel
theorem d_L_law_361 : decode b_L_law 361 = .ok (.iload 5, 2) := by decide +kernel
theorem d_L_law_363 : decode b_L_law 363 = .ok (.if_icmp .eq 5, 3) := by decide +kernel
theorem d_L_law_366 : decode b_L_law 366 = .ok (.iconst 0, 1) := by decide +kernel
theorem d_L_law_367 : decode b_L_law 367 = .ok (.ireturn, 1) := by decide +kernel
theorem d_L_law_368 : decode b_L_law 368 = .ok (.iload 5, 2) := by decide +kernel
theorem d_L_law_370 : decode b_L_law 370 = .ok (.ifCond .ne 15, 3) := by decide +kernel
theorem d_L_law_373 : decode b_L_law 373 = .ok (.aload_n 3, 1) := by decide +kernel
theorem d_L_law_374 : decode b_L_law 374 = .ok (.iconst 0, 1) := by decide +kernel
theorem d_L_law_375 : decode b_L_law 375 = .ok (.laload, 1) := by decide +kernel
theorem d_L_law_376 : decode b_L_law 376 = .ok (.iload 6, 2) := by decide +kernel
theorem d_L_law_378 : decode b_L_law 378 = .ok (.i2l, 1) := by decide +kernel
theorem d_L_law_379 : decode b_L_law 379 = .ok (.lcmp, 1) := by decide +kernel
theorem d_L_law_380 : decode b_L_law 380 = .ok (.ifCond .eq 5, 3) := by decide +kernel
theorem d_L_law_383 : decode b_L_law 383 = .ok (.iconst 0, 1) := by decide +kernel
theorem d_L_law_384 : decode b_L_law 384 = .ok (.ireturn, 1) := by decide +kernel
theorem d_L_law_385 : decode b_L_law 385 = .ok (.goto 553, 3) := by decide +kernel
theorem d_L_law_388 : decode b_L_law 388 = .ok (.aload_n 1, 1) := by decide +kernel
theorem d_L_law_389 : decode b_L_law 389 = .ok (.aload_n 0, 1) := by decide +kernel
theorem d_L_law_390 : decode b_L_law 390 = .ok (.iload 4, 2) := by decide +kernel
theorem d_L_law_392 : decode b_L_law 392 = .ok (.iconst 1, 1) := by decide +kernel
theorem d_L_law_393 : decode b_L_law 393 = .ok (.iadd, 1) := by decide +kernel
theorem d_L_law_394 : decode b_L_law 394 = .ok (.iaload, 1) := by decide +kernel
theorem d_L_law_395 : decode b_L_law 395 = .ok (.aload_n 0, 1) := by decide +kernel
theorem d_L_law_396 : decode b_L_law 396 = .ok (.iload 4, 2) := by decide +kernel
theorem d_L_law_398 : decode b_L_law 398 = .ok (.iconst 2, 1) := by decide +kernel
theorem d_L_law_399 : decode b_L_law 399 = .ok (.iadd, 1) := by decide +kernel
theorem d_L_law_400 : decode b_L_law 400 = .ok (.iaload, 1) := by decide +kernel
theorem d_L_law_401 : decode b_L_law 401 = .ok (.aload_n 3, 1) := by decide +kernel
theorem d_L_law_402 : decode b_L_law 402 = .ok (.invokestatic 83, 3) := by decide +kernel
theorem d_L_law_405 : decode b_L_law 405 = .ok (.istore 5, 2) := by decide +kernel
theorem d_L_law_407 : decode b_L_law 407 = .ok (.aload_n 2, 1) := by decide +kernel
theorem d_L_law_408 : decode b_L_law 408 = .ok (.aload_n 0, 1) := by decide +kernel
theorem d_L_law_409 : decode b_L_law 409 = .ok (.iload 4, 2) := by decide +kernel
theorem d_L_law_411 : decode b_L_law 411 = .ok (.iconst 1, 1) := by decide +kernel
theorem d_L_law_412 : decode b_L_law 412 = .ok (.iadd, 1) := by decide +kernel
theorem d_L_law_413 : decode b_L_law 413 = .ok (.iaload, 1) := by decide +kernel
theorem d_L_law_414 : decode b_L_law 414 = .ok (.aload_n 0, 1) := by decide +kernel
theorem d_L_law_415 : decode b_L_law 415 = .ok (.iload 4, 2) := by decide +kernel
theorem d_L_law_417 : decode b_L_law 417 = .ok (.iconst 2, 1) := by decide +kernel
theorem d_L_law_418 : decode b_L_law 418 = .ok (.iadd, 1) := by decide +kernel
theorem d_L_law_419 : decode b_L_law 419 = .ok (.iaload, 1) := by decide +kernel
theorem d_L_law_420 : decode b_L_law 420 = .ok (.invokevirtual 85, 3) := by decide +kernel
theorem d_L_law_423 : decode b_L_law 423 = .ok (.istore 6, 2) := by decide +kernel
theorem d_L_law_425 : decode b_L_law 425 = .ok (.aload_n 2, 1) := by decide +kernel
theorem d_L_law_426 : decode b_L_law 426 = .ok (.invokevirtual 69, 3) := by decide +kernel
theorem d_L_law_429 : decode b_L_law 429 = .ok (.iload 5, 2) := by decide +kernel
theorem d_L_law_431 : decode b_L_law 431 = .ok (.if_icmp .eq 5, 3) := by decide +kernel
theorem d_L_law_434 : decode b_L_law 434 = .ok (.iconst 0, 1) := by decide +kernel
theorem d_L_law_435 : decode b_L_law 435 = .ok (.ireturn, 1) := by decide +kernel
theorem d_L_law_436 : decode b_L_law 436 = .ok (.iload 5, 2) := by decide +kernel
theorem d_L_law_438 : decode b_L_law 438 = .ok (.ifCond .ne 15, 3) := by decide +kernel
theorem d_L_law_441 : decode b_L_law 441 = .ok (.aload_n 3, 1) := by decide +kernel
theorem d_L_law_442 : decode b_L_law 442 = .ok (.iconst 0, 1) := by decide +kernel
theorem d_L_law_443 : decode b_L_law 443 = .ok (.laload, 1) := by decide +kernel
theorem d_L_law_444 : decode b_L_law 444 = .ok (.iload 6, 2) := by decide +kernel
theorem d_L_law_446 : decode b_L_law 446 = .ok (.i2l, 1) := by decide +kernel
theorem d_L_law_447 : decode b_L_law 447 = .ok (.lcmp, 1) := by decide +kernel
theorem d_L_law_448 : decode b_L_law 448 = .ok (.ifCond .eq 5, 3) := by decide +kernel
theorem d_L_law_451 : decode b_L_law 451 = .ok (.iconst 0, 1) := by decide +kernel
theorem d_L_law_452 : decode b_L_law 452 = .ok (.ireturn, 1) := by decide +kernel
theorem d_L_law_453 : decode b_L_law 453 = .ok (.goto 485, 3) := by decide +kernel
theorem d_L_law_456 : decode b_L_law 456 = .ok (.aload_n 1, 1) := by decide +kernel
theorem d_L_law_457 : decode b_L_law 457 = .ok (.aload_n 0, 1) := by decide +kernel
theorem d_L_law_458 : decode b_L_law 458 = .ok (.iload 4, 2) := by decide +kernel
theorem d_L_law_460 : decode b_L_law 460 = .ok (.iconst 1, 1) := by decide +kernel
theorem d_L_law_461 : decode b_L_law 461 = .ok (.iadd, 1) := by decide +kernel
theorem d_L_law_462 : decode b_L_law 462 = .ok (.iaload, 1) := by decide +kernel
theorem d_L_law_463 : decode b_L_law 463 = .ok (.aload_n 3, 1) := by decide +kernel
theorem d_L_law_464 : decode b_L_law 464 = .ok (.invokestatic 86, 3) := by decide +kernel
theorem d_L_law_467 : decode b_L_law 467 = .ok (.istore 5, 2) := by decide +kernel
theorem d_L_law_469 : decode b_L_law 469 = .ok (.aload_n 2, 1) := by decide +kernel
theorem d_L_law_470 : decode b_L_law 470 = .ok (.aload_n 0, 1) := by decide +kernel
theorem d_L_law_471 : decode b_L_law 471 = .ok (.iload 4, 2) := by decide +kernel
theorem d_L_law_473 : decode b_L_law 473 = .ok (.iconst 1, 1) := by decide +kernel
theorem d_L_law_474 : decode b_L_law 474 = .ok (.iadd, 1) := by decide +kernel
theorem d_L_law_475 : decode b_L_law 475 = .ok (.iaload, 1) := by decide +kernel
theorem d_L_law_476 : decode b_L_law 476 = .ok (.invokevirtual 88, 3) := by decide +kernel
theorem d_L_law_479 : decode b_L_law 479 = .ok (.istore 6, 2) := by decide +kernel
theorem d_L_law_481 : decode b_L_law 481 = .ok (.aload_n 2, 1) := by decide +kernel
theorem d_L_law_482 : decode b_L_law 482 = .ok (.invokevirtual 69, 3) := by decide +kernel
theorem d_L_law_485 : decode b_L_law 485 = .ok (.iload 5, 2) := by decide +kernel
theorem d_L_law_487 : decode b_L_law 487 = .ok (.if_icmp .eq 5, 3) := by decide +kernel
theorem d_L_law_490 : decode b_L_law 490 = .ok (.iconst 0, 1) := by decide +kernel
theorem d_L_law_491 : decode b_L_law 491 = .ok (.ireturn, 1) := by decide +kernel
theorem d_L_law_492 : decode b_L_law 492 = .ok (.iload 5, 2) := by decide +kernel
theorem d_L_law_494 : decode b_L_law 494 = .ok (.ifCond .ne 15, 3) := by decide +kernel
theorem d_L_law_497 : decode b_L_law 497 = .ok (.aload_n 3, 1) := by decide +kernel
theorem d_L_law_498 : decode b_L_law 498 = .ok (.iconst 0, 1) := by decide +kernel
theorem d_L_law_499 : decode b_L_law 499 = .ok (.laload, 1) := by decide +kernel
theorem d_L_law_500 : decode b_L_law 500 = .ok (.iload 6, 2) := by decide +kernel
theorem d_L_law_502 : decode b_L_law 502 = .ok (.i2l, 1) := by decide +kernel
theorem d_L_law_503 : decode b_L_law 503 = .ok (.lcmp, 1) := by decide +kernel
theorem d_L_law_504 : decode b_L_law 504 = .ok (.ifCond .eq 5, 3) := by decide +kernel
theorem d_L_law_507 : decode b_L_law 507 = .ok (.iconst 0, 1) := by decide +kernel
theorem d_L_law_508 : decode b_L_law 508 = .ok (.ireturn, 1) := by decide +kernel
theorem d_L_law_509 : decode b_L_law 509 = .ok (.goto 429, 3) := by decide +kernel
theorem d_L_law_512 : decode b_L_law 512 = .ok (.aload_n 1, 1) := by decide +kernel
theorem d_L_law_513 : decode b_L_law 513 = .ok (.aload_n 3, 1) := by decide +kernel
theorem d_L_law_514 : decode b_L_law 514 = .ok (.invokestatic 89, 3) := by decide +kernel
theorem d_L_law_517 : decode b_L_law 517 = .ok (.istore 5, 2) := by decide +kernel
theorem d_L_law_519 : decode b_L_law 519 = .ok (.aload_n 2, 1) := by decide +kernel
theorem d_L_law_520 : decode b_L_law 520 = .ok (.invokevirtual 92, 3) := by decide +kernel
theorem d_L_law_523 : decode b_L_law 523 = .ok (.istore 6, 2) := by decide +kernel
theorem d_L_law_525 : decode b_L_law 525 = .ok (.aload_n 2, 1) := by decide +kernel
theorem d_L_law_526 : decode b_L_law 526 = .ok (.invokevirtual 69, 3) := by decide +kernel
theorem d_L_law_529 : decode b_L_law 529 = .ok (.iload 5, 2) := by decide +kernel
theorem d_L_law_531 : decode b_L_law 531 = .ok (.if_icmp .eq 5, 3) := by decide +kernel
theorem d_L_law_534 : decode b_L_law 534 = .ok (.iconst 0, 1) := by decide +kernel
theorem d_L_law_535 : decode b_L_law 535 = .ok (.ireturn, 1) := by decide +kernel
theorem d_L_law_536 : decode b_L_law 536 = .ok (.iload 5, 2) := by decide +kernel
theorem d_L_law_538 : decode b_L_law 538 = .ok (.ifCond .ne 15, 3) := by decide +kernel
theorem d_L_law_541 : decode b_L_law 541 = .ok (.aload_n 3, 1) := by decide +kernel
theorem d_L_law_542 : decode b_L_law 542 = .ok (.iconst 0, 1) := by decide +kernel
theorem d_L_law_543 : decode b_L_law 543 = .ok (.laload, 1) := by decide +kernel
theorem d_L_law_544 : decode b_L_law 544 = .ok (.iload 6, 2) := by decide +kernel
theorem d_L_law_546 : decode b_L_law 546 = .ok (.i2l, 1) := by decide +kernel
theorem d_L_law_547 : decode b_L_law 547 = .ok (.lcmp, 1) := by decide +kernel
theorem d_L_law_548 : decode b_L_law 548 = .ok (.ifCond .eq 5, 3) := by decide +kernel
theorem d_L_law_551 : decode b_L_law 551 = .ok (.iconst 0, 1) := by decide +kernel
theorem d_L_law_552 : decode b_L_law 552 = .ok (.ireturn, 1) := by decide +kernel
theorem d_L_law_553 : decode b_L_law 553 = .ok (.goto 385, 3) := by decide +kernel
theorem d_L_law_556 : decode b_L_law 556 = .ok (.aload_n 1, 1) := by decide +kernel
theorem d_L_law_557 : decode b_L_law 557 = .ok (.aload_n 3, 1) := by decide +kernel
theorem d_L_law_558 : decode b_L_law 558 = .ok (.invokestatic 93, 3) := by decide +kernel
theorem d_L_law_561 : decode b_L_law 561 = .ok (.istore 5, 2) := by decide +kernel
theorem d_L_law_563 : decode b_L_law 563 = .ok (.aload_n 2, 1) := by decide +kernel
theorem d_L_law_564 : decode b_L_law 564 = .ok (.invokevirtual 95, 3) := by decide +kernel
theorem d_L_law_567 : decode b_L_law 567 = .ok (.istore 6, 2) := by decide +kernel
theorem d_L_law_569 : decode b_L_law 569 = .ok (.aload_n 2, 1) := by decide +kernel
theorem d_L_law_570 : decode b_L_law 570 = .ok (.invokevirtual 69, 3) := by decide +kernel
theorem d_L_law_573 : decode b_L_law 573 = .ok (.iload 5, 2) := by decide +kernel
theorem d_L_law_575 : decode b_L_law 575 = .ok (.if_icmp .eq 5, 3) := by decide +kernel
theorem d_L_law_578 : decode b_L_law 578 = .ok (.iconst 0, 1) := by decide +kernel
theorem d_L_law_579 : decode b_L_law 579 = .ok (.ireturn, 1) := by decide +kernel
theorem d_L_law_580 : decode b_L_law 580 = .ok (.iload 5, 2) := by decide +kernel
theorem d_L_law_582 : decode b_L_law 582 = .ok (.ifCond .ne 15, 3) := by decide +kernel
theorem d_L_law_585 : decode b_L_law 585 = .ok (.aload_n 3, 1) := by decide +kernel
theorem d_L_law_586 : decode b_L_law 586 = .ok (.iconst 0, 1) := by decide +kernel
theorem d_L_law_587 : decode b_L_law 587 = .ok (.laload, 1) := by decide +kernel
theorem d_L_law_588 : decode b_L_law 588 = .ok (.iload 6, 2) := by decide +kernel
theorem d_L_law_590 : decode b_L_law 590 = .ok (.i2l, 1) := by decide +kernel
theorem d_L_law_591 : decode b_L_law 591 = .ok (.lcmp, 1) := by decide +kernel
theorem d_L_law_592 : decode b_L_law 592 = .ok (.ifCond .eq 5, 3) := by decide +kernel
theorem d_L_law_595 : decode b_L_law 595 = .ok (.iconst 0, 1) := by decide +kernel
theorem d_L_law_596 : decode b_L_law 596 = .ok (.ireturn, 1) := by decide +kernel
theorem d_L_law_597 : decode b_L_law 597 = .ok (.goto 341, 3) := by decide +kernel
theorem d_L_law_600 : decode b_L_law 600 = .ok (.aload_n 1, 1) := by decide +kernel
theorem d_L_law_601 : decode b_L_law 601 = .ok (.aload_n 3, 1) := by decide +kernel
theorem d_L_law_602 : decode b_L_law 602 = .ok (.invokestatic 96, 3) := by decide +kernel
theorem d_L_law_605 : decode b_L_law 605 = .ok (.istore 5, 2) := by decide +kernel
theorem d_L_law_607 : decode b_L_law 607 = .ok (.aload_n 2, 1) := by decide +kernel
theorem d_L_law_608 : decode b_L_law 608 = .ok (.invokevirtual 98, 3) := by decide +kernel
theorem d_L_law_611 : decode b_L_law 611 = .ok (.istore 6, 2) := by decide +kernel
theorem d_L_law_613 : decode b_L_law 613 = .ok (.aload_n 2, 1) := by decide +kernel
theorem d_L_law_614 : decode b_L_law 614 = .ok (.invokevirtual 69, 3) := by decide +kernel
theorem d_L_law_617 : decode b_L_law 617 = .ok (.iload 5, 2) := by decide +kernel
theorem d_L_law_619 : decode b_L_law 619 = .ok (.if_icmp .eq 5, 3) := by decide +kernel
theorem d_L_law_622 : decode b_L_law 622 = .ok (.iconst 0, 1) := by decide +kernel
theorem d_L_law_623 : decode b_L_law 623 = .ok (.ireturn, 1) := by decide +kernel
theorem d_L_law_624 : decode b_L_law 624 = .ok (.iload 5, 2) := by decide +kernel
theorem d_L_law_626 : decode b_L_law 626 = .ok (.ifCond .ne 15, 3) := by decide +kernel
theorem d_L_law_629 : decode b_L_law 629 = .ok (.aload_n 3, 1) := by decide +kernel
theorem d_L_law_630 : decode b_L_law 630 = .ok (.iconst 0, 1) := by decide +kernel
theorem d_L_law_631 : decode b_L_law 631 = .ok (.laload, 1) := by decide +kernel
theorem d_L_law_632 : decode b_L_law 632 = .ok (.iload 6, 2) := by decide +kernel
theorem d_L_law_634 : decode b_L_law 634 = .ok (.i2l, 1) := by decide +kernel
theorem d_L_law_635 : decode b_L_law 635 = .ok (.lcmp, 1) := by decide +kernel
theorem d_L_law_636 : decode b_L_law 636 = .ok (.ifCond .eq 5, 3) := by decide +kernel
theorem d_L_law_639 : decode b_L_law 639 = .ok (.iconst 0, 1) := by decide +kernel
theorem d_L_law_640 : decode b_L_law 640 = .ok (.ireturn, 1) := by decide +kernel
theorem d_L_law_641 : decode b_L_law 641 = .ok (.goto 297, 3) := by decide +kernel
theorem d_L_law_644 : decode b_L_law 644 = .ok (.aload_n 1, 1) := by decide +kernel
theorem d_L_law_645 : decode b_L_law 645 = .ok (.invokevirtual 99, 3) := by decide +kernel
theorem d_L_law_648 : decode b_L_law 648 = .ok (.aload_n 2, 1) := by decide +kernel
theorem d_L_law_649 : decode b_L_law 649 = .ok (.invokevirtual 102, 3) := by decide +kernel
theorem d_L_law_652 : decode b_L_law 652 = .ok (.if_icmp .eq 286, 3) := by decide +kernel
theorem d_L_law_655 : decode b_L_law 655 = .ok (.iconst 0, 1) := by decide +kernel
theorem d_L_law_656 : decode b_L_law 656 = .ok (.ireturn, 1) := by decide +kernel
theorem d_L_law_657 : decode b_L_law 657 = .ok (.aload_n 1, 1) := by decide +kernel
theorem d_L_law_658 : decode b_L_law 658 = .ok (.aload_n 0, 1) := by decide +kernel
theorem d_L_law_659 : decode b_L_law 659 = .ok (.iload 4, 2) := by decide +kernel
theorem d_L_law_661 : decode b_L_law 661 = .ok (.iconst 1, 1) := by decide +kernel
theorem d_L_law_662 : decode b_L_law 662 = .ok (.iadd, 1) := by decide +kernel
theorem d_L_law_663 : decode b_L_law 663 = .ok (.iaload, 1) := by decide +kernel
theorem d_L_law_664 : decode b_L_law 664 = .ok (.invokevirtual 103, 3) := by decide +kernel
theorem d_L_law_667 : decode b_L_law 667 = .ok (.aload_n 2, 1) := by decide +kernel
theorem d_L_law_668 : decode b_L_law 668 = .ok (.aload_n 0, 1) := by decide +kernel
theorem d_L_law_669 : decode b_L_law 669 = .ok (.iload 4, 2) := by decide +kernel
theorem d_L_law_671 : decode b_L_law 671 = .ok (.iconst 1, 1) := by decide +kernel
theorem d_L_law_672 : decode b_L_law 672 = .ok (.iadd, 1) := by decide +kernel
theorem d_L_law_673 : decode b_L_law 673 = .ok (.iaload, 1) := by decide +kernel
theorem d_L_law_674 : decode b_L_law 674 = .ok (.invokevirtual 106, 3) := by decide +kernel
theorem d_L_law_677 : decode b_L_law 677 = .ok (.if_icmp .eq 261, 3) := by decide +kernel
theorem d_L_law_680 : decode b_L_law 680 = .ok (.iconst 0, 1) := by decide +kernel
theorem d_L_law_681 : decode b_L_law 681 = .ok (.ireturn, 1) := by decide +kernel
theorem d_L_law_682 : decode b_L_law 682 = .ok (.aload_n 1, 1) := by decide +kernel
theorem d_L_law_683 : decode b_L_law 683 = .ok (.aload_n 0, 1) := by decide +kernel
theorem d_L_law_684 : decode b_L_law 684 = .ok (.iload 4, 2) := by decide +kernel
theorem d_L_law_686 : decode b_L_law 686 = .ok (.iconst 1, 1) := by decide +kernel
theorem d_L_law_687 : decode b_L_law 687 = .ok (.iadd, 1) := by decide +kernel
theorem d_L_law_688 : decode b_L_law 688 = .ok (.iaload, 1) := by decide +kernel
theorem d_L_law_689 : decode b_L_law 689 = .ok (.aload_n 3, 1) := by decide +kernel
theorem d_L_law_690 : decode b_L_law 690 = .ok (.invokestatic 107, 3) := by decide +kernel
theorem d_L_law_693 : decode b_L_law 693 = .ok (.istore 5, 2) := by decide +kernel
theorem d_L_law_695 : decode b_L_law 695 = .ok (.aload_n 2, 1) := by decide +kernel
theorem d_L_law_696 : decode b_L_law 696 = .ok (.aload_n 0, 1) := by decide +kernel
theorem d_L_law_697 : decode b_L_law 697 = .ok (.iload 4, 2) := by decide +kernel
theorem d_L_law_699 : decode b_L_law 699 = .ok (.iconst 1, 1) := by decide +kernel
theorem d_L_law_700 : decode b_L_law 700 = .ok (.iadd, 1) := by decide +kernel
theorem d_L_law_701 : decode b_L_law 701 = .ok (.iaload, 1) := by decide +kernel
theorem d_L_law_702 : decode b_L_law 702 = .ok (.invokevirtual 109, 3) := by decide +kernel
theorem d_L_law_705 : decode b_L_law 705 = .ok (.istore 6, 2) := by decide +kernel
theorem d_L_law_707 : decode b_L_law 707 = .ok (.aload_n 2, 1) := by decide +kernel
theorem d_L_law_708 : decode b_L_law 708 = .ok (.invokevirtual 69, 3) := by decide +kernel
theorem d_L_law_711 : decode b_L_law 711 = .ok (.iload 5, 2) := by decide +kernel
theorem d_L_law_713 : decode b_L_law 713 = .ok (.if_icmp .eq 5, 3) := by decide +kernel
theorem d_L_law_716 : decode b_L_law 716 = .ok (.iconst 0, 1) := by decide +kernel
theorem d_L_law_717 : decode b_L_law 717 = .ok (.ireturn, 1) := by decide +kernel
theorem d_L_law_718 : decode b_L_law 718 = .ok (.iload 5, 2) := by decide +kernel
theorem d_L_law_720 : decode b_L_law 720 = .ok (.ifCond .ne 15, 3) := by decide +kernel
theorem d_L_law_723 : decode b_L_law 723 = .ok (.aload_n 3, 1) := by decide +kernel
theorem d_L_law_724 : decode b_L_law 724 = .ok (.iconst 0, 1) := by decide +kernel
theorem d_L_law_725 : decode b_L_law 725 = .ok (.laload, 1) := by decide +kernel
theorem d_L_law_726 : decode b_L_law 726 = .ok (.iload 6, 2) := by decide +kernel
theorem d_L_law_728 : decode b_L_law 728 = .ok (.i2l, 1) := by decide +kernel
theorem d_L_law_729 : decode b_L_law 729 = .ok (.lcmp, 1) := by decide +kernel
theorem d_L_law_730 : decode b_L_law 730 = .ok (.ifCond .eq 5, 3) := by decide +kernel
theorem d_L_law_733 : decode b_L_law 733 = .ok (.iconst 0, 1) := by decide +kernel
theorem d_L_law_734 : decode b_L_law 734 = .ok (.ireturn, 1) := by decide +kernel
theorem d_L_law_735 : decode b_L_law 735 = .ok (.goto 203, 3) := by decide +kernel
theorem d_L_law_738 : decode b_L_law 738 = .ok (.aload_n 1, 1) := by decide +kernel
theorem d_L_law_739 : decode b_L_law 739 = .ok (.aload_n 0, 1) := by decide +kernel
theorem d_L_law_740 : decode b_L_law 740 = .ok (.iload 4, 2) := by decide +kernel
theorem d_L_law_742 : decode b_L_law 742 = .ok (.iconst 1, 1) := by decide +kernel
theorem d_L_law_743 : decode b_L_law 743 = .ok (.iadd, 1) := by decide +kernel
theorem d_L_law_744 : decode b_L_law 744 = .ok (.iaload, 1) := by decide +kernel
theorem d_L_law_745 : decode b_L_law 745 = .ok (.aload_n 0, 1) := by decide +kernel
theorem d_L_law_746 : decode b_L_law 746 = .ok (.iload 4, 2) := by decide +kernel
theorem d_L_law_748 : decode b_L_law 748 = .ok (.iconst 2, 1) := by decide +kernel
theorem d_L_law_749 : decode b_L_law 749 = .ok (.iadd, 1) := by decide +kernel
theorem d_L_law_750 : decode b_L_law 750 = .ok (.iaload, 1) := by decide +kernel
theorem d_L_law_751 : decode b_L_law 751 = .ok (.aload_n 3, 1) := by decide +kernel
theorem d_L_law_752 : decode b_L_law 752 = .ok (.invokestatic 110, 3) := by decide +kernel
theorem d_L_law_755 : decode b_L_law 755 = .ok (.istore 5, 2) := by decide +kernel
theorem d_L_law_757 : decode b_L_law 757 = .ok (.aload_n 2, 1) := by decide +kernel
theorem d_L_law_758 : decode b_L_law 758 = .ok (.aload_n 0, 1) := by decide +kernel
theorem d_L_law_759 : decode b_L_law 759 = .ok (.iload 4, 2) := by decide +kernel
theorem d_L_law_761 : decode b_L_law 761 = .ok (.iconst 1, 1) := by decide +kernel
theorem d_L_law_762 : decode b_L_law 762 = .ok (.iadd, 1) := by decide +kernel
theorem d_L_law_763 : decode b_L_law 763 = .ok (.iaload, 1) := by decide +kernel
theorem d_L_law_764 : decode b_L_law 764 = .ok (.aload_n 0, 1) := by decide +kernel
theorem d_L_law_765 : decode b_L_law 765 = .ok (.iload 4, 2) := by decide +kernel
theorem d_L_law_767 : decode b_L_law 767 = .ok (.iconst 2, 1) := by decide +kernel
theorem d_L_law_768 : decode b_L_law 768 = .ok (.iadd, 1) := by decide +kernel
theorem d_L_law_769 : decode b_L_law 769 = .ok (.iaload, 1) := by decide +kernel
theorem d_L_law_770 : decode b_L_law 770 = .ok (.invokevirtual 112, 3) := by decide +kernel
theorem d_L_law_773 : decode b_L_law 773 = .ok (.istore 6, 2) := by decide +kernel
theorem d_L_law_775 : decode b_L_law 775 = .ok (.aload_n 2, 1) := by decide +kernel
theorem d_L_law_776 : decode b_L_law 776 = .ok (.invokevirtual 69, 3) := by decide +kernel
theorem d_L_law_779 : decode b_L_law 779 = .ok (.iload 5, 2) := by decide +kernel
theorem d_L_law_781 : decode b_L_law 781 = .ok (.if_icmp .eq 5, 3) := by decide +kernel
theorem d_L_law_784 : decode b_L_law 784 = .ok (.iconst 0, 1) := by decide +kernel
theorem d_L_law_785 : decode b_L_law 785 = .ok (.ireturn, 1) := by decide +kernel
theorem d_L_law_786 : decode b_L_law 786 = .ok (.iload 5, 2) := by decide +kernel
theorem d_L_law_788 : decode b_L_law 788 = .ok (.ifCond .ne 15, 3) := by decide +kernel
theorem d_L_law_791 : decode b_L_law 791 = .ok (.aload_n 3, 1) := by decide +kernel
theorem d_L_law_792 : decode b_L_law 792 = .ok (.iconst 0, 1) := by decide +kernel
theorem d_L_law_793 : decode b_L_law 793 = .ok (.laload, 1) := by decide +kernel
theorem d_L_law_794 : decode b_L_law 794 = .ok (.iload 6, 2) := by decide +kernel
theorem d_L_law_796 : decode b_L_law 796 = .ok (.i2l, 1) := by decide +kernel
theorem d_L_law_797 : decode b_L_law 797 = .ok (.lcmp, 1) := by decide +kernel
theorem d_L_law_798 : decode b_L_law 798 = .ok (.ifCond .eq 5, 3) := by decide +kernel
theorem d_L_law_801 : decode b_L_law 801 = .ok (.iconst 0, 1) := by decide +kernel
theorem d_L_law_802 : decode b_L_law 802 = .ok (.ireturn, 1) := by decide +kernel
theorem d_L_law_803 : decode b_L_law 803 = .ok (.goto 135, 3) := by decide +kernel
theorem d_L_law_806 : decode b_L_law 806 = .ok (.aload_n 1, 1) := by decide +kernel
theorem d_L_law_807 : decode b_L_law 807 = .ok (.invokevirtual 113, 3) := by decide +kernel
theorem d_L_law_810 : decode b_L_law 810 = .ok (.aload_n 2, 1) := by decide +kernel
theorem d_L_law_811 : decode b_L_law 811 = .ok (.invokevirtual 116, 3) := by decide +kernel
theorem d_L_law_814 : decode b_L_law 814 = .ok (.if_icmp .eq 124, 3) := by decide +kernel
theorem d_L_law_817 : decode b_L_law 817 = .ok (.iconst 0, 1) := by decide +kernel
theorem d_L_law_818 : decode b_L_law 818 = .ok (.ireturn, 1) := by decide +kernel
theorem d_L_law_819 : decode b_L_law 819 = .ok (.aload_n 1, 1) := by decide +kernel
theorem d_L_law_820 : decode b_L_law 820 = .ok (.invokevirtual 117, 3) := by decide +kernel
theorem d_L_law_823 : decode b_L_law 823 = .ok (.aload_n 2, 1) := by decide +kernel
theorem d_L_law_824 : decode b_L_law 824 = .ok (.invokevirtual 120, 3) := by decide +kernel
theorem d_L_law_827 : decode b_L_law 827 = .ok (.if_icmp .eq 111, 3) := by decide +kernel
theorem d_L_law_830 : decode b_L_law 830 = .ok (.iconst 0, 1) := by decide +kernel
theorem d_L_law_831 : decode b_L_law 831 = .ok (.ireturn, 1) := by decide +kernel
theorem d_L_law_832 : decode b_L_law 832 = .ok (.aload_n 1, 1) := by decide +kernel
theorem d_L_law_833 : decode b_L_law 833 = .ok (.aload_n 0, 1) := by decide +kernel
theorem d_L_law_834 : decode b_L_law 834 = .ok (.iload 4, 2) := by decide +kernel
theorem d_L_law_836 : decode b_L_law 836 = .ok (.iconst 1, 1) := by decide +kernel
theorem d_L_law_837 : decode b_L_law 837 = .ok (.iadd, 1) := by decide +kernel
theorem d_L_law_838 : decode b_L_law 838 = .ok (.iaload, 1) := by decide +kernel
theorem d_L_law_839 : decode b_L_law 839 = .ok (.invokestatic 121, 3) := by decide +kernel
theorem d_L_law_842 : decode b_L_law 842 = .ok (.istore 5, 2) := by decide +kernel
theorem d_L_law_844 : decode b_L_law 844 = .ok (.aload_n 2, 1) := by decide +kernel
theorem d_L_law_845 : decode b_L_law 845 = .ok (.aload_n 0, 1) := by decide +kernel
theorem d_L_law_846 : decode b_L_law 846 = .ok (.iload 4, 2) := by decide +kernel
theorem d_L_law_848 : decode b_L_law 848 = .ok (.iconst 1, 1) := by decide +kernel
theorem d_L_law_849 : decode b_L_law 849 = .ok (.iadd, 1) := by decide +kernel
theorem d_L_law_850 : decode b_L_law 850 = .ok (.iaload, 1) := by decide +kernel
theorem d_L_law_851 : decode b_L_law 851 = .ok (.invokevirtual 124, 3) := by decide +kernel
theorem d_L_law_854 : decode b_L_law 854 = .ok (.aload_n 2, 1) := by decide +kernel
theorem d_L_law_855 : decode b_L_law 855 = .ok (.invokevirtual 69, 3) := by decide +kernel
theorem d_L_law_858 : decode b_L_law 858 = .ok (.iload 5, 2) := by decide +kernel
theorem d_L_law_860 : decode b_L_law 860 = .ok (.if_icmp .eq 5, 3) := by decide +kernel
theorem d_L_law_863 : decode b_L_law 863 = .ok (.iconst 0, 1) := by decide +kernel
theorem d_L_law_864 : decode b_L_law 864 = .ok (.ireturn, 1) := by decide +kernel
theorem d_L_law_865 : decode b_L_law 865 = .ok (.goto 73, 3) := by decide +kernel
theorem d_L_law_868 : decode b_L_law 868 = .ok (.aload_n 1, 1) := by decide +kernel
theorem d_L_law_869 : decode b_L_law 869 = .ok (.invokevirtual 125, 3) := by decide +kernel
theorem d_L_law_872 : decode b_L_law 872 = .ok (.aload_n 2, 1) := by decide +kernel
theorem d_L_law_873 : decode b_L_law 873 = .ok (.invokevirtual 129, 3) := by decide +kernel
theorem d_L_law_876 : decode b_L_law 876 = .ok (.if_icmp .eq 62, 3) := by decide +kernel
theorem d_L_law_879 : decode b_L_law 879 = .ok (.iconst 0, 1) := by decide +kernel
theorem d_L_law_880 : decode b_L_law 880 = .ok (.ireturn, 1) := by decide +kernel
theorem d_L_law_881 : decode b_L_law 881 = .ok (.aload_n 1, 1) := by decide +kernel
theorem d_L_law_882 : decode b_L_law 882 = .ok (.aload_n 3, 1) := by decide +kernel
theorem d_L_law_883 : decode b_L_law 883 = .ok (.invokestatic 130, 3) := by decide +kernel
theorem d_L_law_886 : decode b_L_law 886 = .ok (.istore 5, 2) := by decide +kernel
theorem d_L_law_888 : decode b_L_law 888 = .ok (.aload_n 2, 1) := by decide +kernel
theorem d_L_law_889 : decode b_L_law 889 = .ok (.invokevirtual 132, 3) := by decide +kernel
theorem d_L_law_892 : decode b_L_law 892 = .ok (.istore 6, 2) := by decide +kernel
theorem d_L_law_894 : decode b_L_law 894 = .ok (.aload_n 2, 1) := by decide +kernel
theorem d_L_law_895 : decode b_L_law 895 = .ok (.invokevirtual 69, 3) := by decide +kernel
theorem d_L_law_898 : decode b_L_law 898 = .ok (.iload 5, 2) := by decide +kernel
theorem d_L_law_900 : decode b_L_law 900 = .ok (.if_icmp .eq 5, 3) := by decide +kernel
theorem d_L_law_903 : decode b_L_law 903 = .ok (.iconst 0, 1) := by decide +kernel
theorem d_L_law_904 : decode b_L_law 904 = .ok (.ireturn, 1) := by decide +kernel
theorem d_L_law_905 : decode b_L_law 905 = .ok (.iload 5, 2) := by decide +kernel
theorem d_L_law_907 : decode b_L_law 907 = .ok (.ifCond .ne 15, 3) := by decide +kernel
theorem d_L_law_910 : decode b_L_law 910 = .ok (.aload_n 3, 1) := by decide +kernel
theorem d_L_law_911 : decode b_L_law 911 = .ok (.iconst 0, 1) := by decide +kernel
theorem d_L_law_912 : decode b_L_law 912 = .ok (.laload, 1) := by decide +kernel
theorem d_L_law_913 : decode b_L_law 913 = .ok (.iload 6, 2) := by decide +kernel
theorem d_L_law_915 : decode b_L_law 915 = .ok (.i2l, 1) := by decide +kernel
theorem d_L_law_916 : decode b_L_law 916 = .ok (.lcmp, 1) := by decide +kernel
theorem d_L_law_917 : decode b_L_law 917 = .ok (.ifCond .eq 5, 3) := by decide +kernel
theorem d_L_law_920 : decode b_L_law 920 = .ok (.iconst 0, 1) := by decide +kernel
theorem d_L_law_921 : decode b_L_law 921 = .ok (.ireturn, 1) := by decide +kernel
theorem d_L_law_922 : decode b_L_law 922 = .ok (.goto 16, 3) := by decide +kernel
theorem d_L_law_925 : decode b_L_law 925 = .ok (.aload_n 1, 1) := by decide +kernel
theorem d_L_law_926 : decode b_L_law 926 = .ok (.invokevirtual 133, 3) := by decide +kernel
theorem d_L_law_929 : decode b_L_law 929 = .ok (.aload_n 2, 1) := by decide +kernel
theorem d_L_law_930 : decode b_L_law 930 = .ok (.invokevirtual 136, 3) := by decide +kernel
theorem d_L_law_933 : decode b_L_law 933 = .ok (.if_icmp .eq 5, 3) := by decide +kernel
theorem d_L_law_936 : decode b_L_law 936 = .ok (.iconst 0, 1) := by decide +kernel
theorem d_L_law_937 : decode b_L_law 937 = .ok (.ireturn, 1) := by decide +kernel
theorem d_L_law_938 : decode b_L_law 938 = .ok (.iinc 4 4, 3) := by decide +kernel
theorem d_L_law_941 : decode b_L_law 941 = .ok (.goto (-918), 3) := by decide +kernel
theorem d_L_law_944 : decode b_L_law 944 = .ok (.iconst 1, 1) := by decide +kernel
theorem d_L_law_945 : decode b_L_law 945 = .ok (.ireturn, 1) := by decide +kernel
set_option maxRecDepth 20000 in
theorem m_183 : Cond.methodLink "PagePoolLaw" 63 (⟨"PagePoolLaw", "fix", "(LPagePool;I[J)I"⟩ : MethodName) ∈ gt := gt_in 183 (by decide +kernel) (by decide +kernel)
set_option maxRecDepth 20000 in
theorem m_184 : Cond.static (⟨"PagePoolLaw", "fix", "(LPagePool;I[J)I"⟩ : MethodName) ∈ gt := gt_in 184 (by decide +kernel) (by decide +kernel)
set_option maxRecDepth 20000 in
theorem m_0 : Cond.initialized "PagePoolLaw" ∈ gt := gt_in 0 (by decide +kernel) (by decide +kernel)
set_option maxRecDepth 20000 in
theorem m_185 : Cond.codeWith (⟨"PagePoolLaw", "fix", "(LPagePool;I[J)I"⟩ : MethodName) method_3_code 4 (some .int) [(0, 9, 12, 13), (0, 9, 15, 15)] ∈ gt := gt_in 185 (by decide +kernel) (by decide +kernel)
set_option maxRecDepth 20000 in
theorem m_632 : Cond.methodLink "PagePoolLaw" 68 (⟨"PagePoolModel", "fix", "(I)I"⟩ : MethodName) ∈ gt := gt_in 632 (by decide +kernel) (by decide +kernel)
set_option maxRecDepth 20000 in
theorem m_633 : Cond.instanceMethod (⟨"PagePoolModel", "fix", "(I)I"⟩ : MethodName) ∈ gt := gt_in 633 (by decide +kernel) (by decide +kernel)
set_option maxRecDepth 20000 in
theorem m_634 : Cond.selects "PagePoolModel" (⟨"PagePoolModel", "fix", "(I)I"⟩ : MethodName) (⟨"PagePoolModel", "fix", "(I)I"⟩ : MethodName) ∈ gt := gt_in 634 (by decide +kernel) (by decide +kernel)
set_option maxRecDepth 20000 in
theorem m_635 : Cond.code (⟨"PagePoolModel", "fix", "(I)I"⟩ : MethodName) prog_7_method_21_code 2 (some .int) ∈ gt := gt_in 635 (by decide +kernel) (by decide +kernel)
set_option maxRecDepth 20000 in
theorem m_596 : Cond.methodLink "PagePoolLaw" 69 (⟨"PagePoolModel", "thrown", "()I"⟩ : MethodName) ∈ gt := gt_in 596 (by decide +kernel) (by decide +kernel)
set_option maxRecDepth 20000 in
theorem m_597 : Cond.instanceMethod (⟨"PagePoolModel", "thrown", "()I"⟩ : MethodName) ∈ gt := gt_in 597 (by decide +kernel) (by decide +kernel)
set_option maxRecDepth 20000 in
theorem m_598 : Cond.selects "PagePoolModel" (⟨"PagePoolModel", "thrown", "()I"⟩ : MethodName) (⟨"PagePoolModel", "thrown", "()I"⟩ : MethodName) ∈ gt := gt_in 598 (by decide +kernel) (by decide +kernel)
set_option maxRecDepth 20000 in
theorem m_599 : Cond.code (⟨"PagePoolModel", "thrown", "()I"⟩ : MethodName) prog_7_method_2_code 1 (some .int) ∈ gt := gt_in 599 (by decide +kernel) (by decide +kernel)
set_option maxRecDepth 20000 in
theorem m_332 : Cond.methodLink "PagePoolLaw" 72 (⟨"PagePoolLaw", "unfix", "(LPagePool;I[J)I"⟩ : MethodName) ∈ gt := gt_in 332 (by decide +kernel) (by decide +kernel)
set_option maxRecDepth 20000 in
theorem m_333 : Cond.static (⟨"PagePoolLaw", "unfix", "(LPagePool;I[J)I"⟩ : MethodName) ∈ gt := gt_in 333 (by decide +kernel) (by decide +kernel)
set_option maxRecDepth 20000 in
theorem m_334 : Cond.codeWith (⟨"PagePoolLaw", "unfix", "(LPagePool;I[J)I"⟩ : MethodName) method_4_code 4 (some .int) [(0, 9, 12, 13), (0, 9, 15, 15)] ∈ gt := gt_in 334 (by decide +kernel) (by decide +kernel)
set_option maxRecDepth 20000 in
theorem m_667 : Cond.methodLink "PagePoolLaw" 74 (⟨"PagePoolModel", "unfix", "(I)I"⟩ : MethodName) ∈ gt := gt_in 667 (by decide +kernel) (by decide +kernel)
set_option maxRecDepth 20000 in
theorem m_668 : Cond.instanceMethod (⟨"PagePoolModel", "unfix", "(I)I"⟩ : MethodName) ∈ gt := gt_in 668 (by decide +kernel) (by decide +kernel)
set_option maxRecDepth 20000 in
theorem m_669 : Cond.selects "PagePoolModel" (⟨"PagePoolModel", "unfix", "(I)I"⟩ : MethodName) (⟨"PagePoolModel", "unfix", "(I)I"⟩ : MethodName) ∈ gt := gt_in 669 (by decide +kernel) (by decide +kernel)
set_option maxRecDepth 20000 in
theorem m_670 : Cond.code (⟨"PagePoolModel", "unfix", "(I)I"⟩ : MethodName) prog_7_method_23_code 2 (some .int) ∈ gt := gt_in 670 (by decide +kernel) (by decide +kernel)
set_option maxRecDepth 20000 in
theorem m_348 : Cond.methodLink "PagePoolLaw" 75 (⟨"PagePoolLaw", "change", "(LPagePool;III[J)I"⟩ : MethodName) ∈ gt := gt_in 348 (by decide +kernel) (by decide +kernel)
set_option maxRecDepth 20000 in
theorem m_349 : Cond.static (⟨"PagePoolLaw", "change", "(LPagePool;III[J)I"⟩ : MethodName) ∈ gt := gt_in 349 (by decide +kernel) (by decide +kernel)
set_option maxRecDepth 20000 in
theorem m_350 : Cond.codeWith (⟨"PagePoolLaw", "change", "(LPagePool;III[J)I"⟩ : MethodName) method_5_code 6 (some .int) [(0, 12, 15, 13), (0, 12, 19, 15)] ∈ gt := gt_in 350 (by decide +kernel) (by decide +kernel)
set_option maxRecDepth 20000 in
theorem m_674 : Cond.methodLink "PagePoolLaw" 78 (⟨"PagePoolModel", "change", "(III)I"⟩ : MethodName) ∈ gt := gt_in 674 (by decide +kernel) (by decide +kernel)
set_option maxRecDepth 20000 in
theorem m_675 : Cond.instanceMethod (⟨"PagePoolModel", "change", "(III)I"⟩ : MethodName) ∈ gt := gt_in 675 (by decide +kernel) (by decide +kernel)
set_option maxRecDepth 20000 in
theorem m_676 : Cond.selects "PagePoolModel" (⟨"PagePoolModel", "change", "(III)I"⟩ : MethodName) (⟨"PagePoolModel", "change", "(III)I"⟩ : MethodName) ∈ gt := gt_in 676 (by decide +kernel) (by decide +kernel)
set_option maxRecDepth 20000 in
theorem m_677 : Cond.code (⟨"PagePoolModel", "change", "(III)I"⟩ : MethodName) prog_7_method_25_code 5 (some .int) ∈ gt := gt_in 677 (by decide +kernel) (by decide +kernel)
set_option maxRecDepth 20000 in
theorem m_376 : Cond.methodLink "PagePoolLaw" 79 (⟨"PagePoolLaw", "word", "(LPagePool;II[J)I"⟩ : MethodName) ∈ gt := gt_in 376 (by decide +kernel) (by decide +kernel)
set_option maxRecDepth 20000 in
theorem m_377 : Cond.static (⟨"PagePoolLaw", "word", "(LPagePool;II[J)I"⟩ : MethodName) ∈ gt := gt_in 377 (by decide +kernel) (by decide +kernel)
set_option maxRecDepth 20000 in
theorem m_378 : Cond.codeWith (⟨"PagePoolLaw", "word", "(LPagePool;II[J)I"⟩ : MethodName) method_6_code 5 (some .int) [(0, 10, 13, 13), (0, 10, 17, 15)] ∈ gt := gt_in 378 (by decide +kernel) (by decide +kernel)
set_option maxRecDepth 20000 in
theorem m_686 : Cond.methodLink "PagePoolLaw" 82 (⟨"PagePoolModel", "word", "(II)I"⟩ : MethodName) ∈ gt := gt_in 686 (by decide +kernel) (by decide +kernel)
set_option maxRecDepth 20000 in
theorem m_687 : Cond.instanceMethod (⟨"PagePoolModel", "word", "(II)I"⟩ : MethodName) ∈ gt := gt_in 687 (by decide +kernel) (by decide +kernel)
set_option maxRecDepth 20000 in
theorem m_688 : Cond.selects "PagePoolModel" (⟨"PagePoolModel", "word", "(II)I"⟩ : MethodName) (⟨"PagePoolModel", "word", "(II)I"⟩ : MethodName) ∈ gt := gt_in 688 (by decide +kernel) (by decide +kernel)
set_option maxRecDepth 20000 in
theorem m_689 : Cond.code (⟨"PagePoolModel", "word", "(II)I"⟩ : MethodName) prog_7_method_26_code 3 (some .int) ∈ gt := gt_in 689 (by decide +kernel) (by decide +kernel)
set_option maxRecDepth 20000 in
theorem m_384 : Cond.methodLink "PagePoolLaw" 83 (⟨"PagePoolLaw", "frame", "(LPagePool;II[J)I"⟩ : MethodName) ∈ gt := gt_in 384 (by decide +kernel) (by decide +kernel)
set_option maxRecDepth 20000 in
theorem m_385 : Cond.static (⟨"PagePoolLaw", "frame", "(LPagePool;II[J)I"⟩ : MethodName) ∈ gt := gt_in 385 (by decide +kernel) (by decide +kernel)
set_option maxRecDepth 20000 in
theorem m_386 : Cond.codeWith (⟨"PagePoolLaw", "frame", "(LPagePool;II[J)I"⟩ : MethodName) method_7_code 5 (some .int) [(0, 10, 13, 15)] ∈ gt := gt_in 386 (by decide +kernel) (by decide +kernel)
set_option maxRecDepth 20000 in
theorem m_690 : Cond.methodLink "PagePoolLaw" 85 (⟨"PagePoolModel", "frame", "(II)I"⟩ : MethodName) ∈ gt := gt_in 690 (by decide +kernel) (by decide +kernel)
set_option maxRecDepth 20000 in
theorem m_691 : Cond.instanceMethod (⟨"PagePoolModel", "frame", "(II)I"⟩ : MethodName) ∈ gt := gt_in 691 (by decide +kernel) (by decide +kernel)
set_option maxRecDepth 20000 in
theorem m_692 : Cond.selects "PagePoolModel" (⟨"PagePoolModel", "frame", "(II)I"⟩ : MethodName) (⟨"PagePoolModel", "frame", "(II)I"⟩ : MethodName) ∈ gt := gt_in 692 (by decide +kernel) (by decide +kernel)
set_option maxRecDepth 20000 in
theorem m_693 : Cond.code (⟨"PagePoolModel", "frame", "(II)I"⟩ : MethodName) prog_7_method_27_code 3 (some .int) ∈ gt := gt_in 693 (by decide +kernel) (by decide +kernel)
set_option maxRecDepth 20000 in
theorem m_392 : Cond.methodLink "PagePoolLaw" 86 (⟨"PagePoolLaw", "flush", "(LPagePool;I[J)I"⟩ : MethodName) ∈ gt := gt_in 392 (by decide +kernel) (by decide +kernel)
set_option maxRecDepth 20000 in
theorem m_393 : Cond.static (⟨"PagePoolLaw", "flush", "(LPagePool;I[J)I"⟩ : MethodName) ∈ gt := gt_in 393 (by decide +kernel) (by decide +kernel)
set_option maxRecDepth 20000 in
theorem m_394 : Cond.codeWith (⟨"PagePoolLaw", "flush", "(LPagePool;I[J)I"⟩ : MethodName) method_8_code 4 (some .int) [(0, 9, 12, 13), (0, 9, 15, 15)] ∈ gt := gt_in 394 (by decide +kernel) (by decide +kernel)
set_option maxRecDepth 20000 in
theorem m_694 : Cond.methodLink "PagePoolLaw" 88 (⟨"PagePoolModel", "flush", "(I)I"⟩ : MethodName) ∈ gt := gt_in 694 (by decide +kernel) (by decide +kernel)
set_option maxRecDepth 20000 in
theorem m_695 : Cond.instanceMethod (⟨"PagePoolModel", "flush", "(I)I"⟩ : MethodName) ∈ gt := gt_in 695 (by decide +kernel) (by decide +kernel)
set_option maxRecDepth 20000 in
theorem m_696 : Cond.selects "PagePoolModel" (⟨"PagePoolModel", "flush", "(I)I"⟩ : MethodName) (⟨"PagePoolModel", "flush", "(I)I"⟩ : MethodName) ∈ gt := gt_in 696 (by decide +kernel) (by decide +kernel)
set_option maxRecDepth 20000 in
theorem m_697 : Cond.code (⟨"PagePoolModel", "flush", "(I)I"⟩ : MethodName) prog_7_method_28_code 3 (some .int) ∈ gt := gt_in 697 (by decide +kernel) (by decide +kernel)
set_option maxRecDepth 20000 in
theorem m_399 : Cond.methodLink "PagePoolLaw" 89 (⟨"PagePoolLaw", "flushOldest", "(LPagePool;[J)I"⟩ : MethodName) ∈ gt := gt_in 399 (by decide +kernel) (by decide +kernel)
set_option maxRecDepth 20000 in
theorem m_400 : Cond.static (⟨"PagePoolLaw", "flushOldest", "(LPagePool;[J)I"⟩ : MethodName) ∈ gt := gt_in 400 (by decide +kernel) (by decide +kernel)
set_option maxRecDepth 20000 in
theorem m_401 : Cond.codeWith (⟨"PagePoolLaw", "flushOldest", "(LPagePool;[J)I"⟩ : MethodName) method_9_code 3 (some .int) [(0, 8, 11, 13)] ∈ gt := gt_in 401 (by decide +kernel) (by decide +kernel)
set_option maxRecDepth 20000 in
theorem m_698 : Cond.methodLink "PagePoolLaw" 92 (⟨"PagePoolModel", "flushOldest", "()I"⟩ : MethodName) ∈ gt := gt_in 698 (by decide +kernel) (by decide +kernel)
set_option maxRecDepth 20000 in
theorem m_699 : Cond.instanceMethod (⟨"PagePoolModel", "flushOldest", "()I"⟩ : MethodName) ∈ gt := gt_in 699 (by decide +kernel) (by decide +kernel)
set_option maxRecDepth 20000 in
theorem m_700 : Cond.selects "PagePoolModel" (⟨"PagePoolModel", "flushOldest", "()I"⟩ : MethodName) (⟨"PagePoolModel", "flushOldest", "()I"⟩ : MethodName) ∈ gt := gt_in 700 (by decide +kernel) (by decide +kernel)
set_option maxRecDepth 20000 in
theorem m_701 : Cond.code (⟨"PagePoolModel", "flushOldest", "()I"⟩ : MethodName) prog_7_method_30_code 3 (some .int) ∈ gt := gt_in 701 (by decide +kernel) (by decide +kernel)
set_option maxRecDepth 20000 in
theorem m_407 : Cond.methodLink "PagePoolLaw" 93 (⟨"PagePoolLaw", "force", "(LPagePool;[J)I"⟩ : MethodName) ∈ gt := gt_in 407 (by decide +kernel) (by decide +kernel)
set_option maxRecDepth 20000 in
theorem m_408 : Cond.static (⟨"PagePoolLaw", "force", "(LPagePool;[J)I"⟩ : MethodName) ∈ gt := gt_in 408 (by decide +kernel) (by decide +kernel)
set_option maxRecDepth 20000 in
theorem m_409 : Cond.codeWith (⟨"PagePoolLaw", "force", "(LPagePool;[J)I"⟩ : MethodName) method_10_code 3 (some .int) [(0, 8, 11, 13)] ∈ gt := gt_in 409 (by decide +kernel) (by decide +kernel)
set_option maxRecDepth 20000 in
theorem m_620 : Cond.methodLink "PagePoolLaw" 95 (⟨"PagePoolModel", "force", "()I"⟩ : MethodName) ∈ gt := gt_in 620 (by decide +kernel) (by decide +kernel)
set_option maxRecDepth 20000 in
theorem m_621 : Cond.instanceMethod (⟨"PagePoolModel", "force", "()I"⟩ : MethodName) ∈ gt := gt_in 621 (by decide +kernel) (by decide +kernel)
set_option maxRecDepth 20000 in
theorem m_622 : Cond.selects "PagePoolModel" (⟨"PagePoolModel", "force", "()I"⟩ : MethodName) (⟨"PagePoolModel", "force", "()I"⟩ : MethodName) ∈ gt := gt_in 622 (by decide +kernel) (by decide +kernel)
set_option maxRecDepth 20000 in
theorem m_623 : Cond.code (⟨"PagePoolModel", "force", "()I"⟩ : MethodName) prog_7_method_12_code 2 (some .int) ∈ gt := gt_in 623 (by decide +kernel) (by decide +kernel)
set_option maxRecDepth 20000 in
theorem m_414 : Cond.methodLink "PagePoolLaw" 96 (⟨"PagePoolLaw", "trim", "(LPagePool;[J)I"⟩ : MethodName) ∈ gt := gt_in 414 (by decide +kernel) (by decide +kernel)
set_option maxRecDepth 20000 in
theorem m_415 : Cond.static (⟨"PagePoolLaw", "trim", "(LPagePool;[J)I"⟩ : MethodName) ∈ gt := gt_in 415 (by decide +kernel) (by decide +kernel)
set_option maxRecDepth 20000 in
theorem m_416 : Cond.codeWith (⟨"PagePoolLaw", "trim", "(LPagePool;[J)I"⟩ : MethodName) method_11_code 3 (some .int) [(0, 8, 11, 13)] ∈ gt := gt_in 416 (by decide +kernel) (by decide +kernel)
set_option maxRecDepth 20000 in
theorem m_706 : Cond.methodLink "PagePoolLaw" 98 (⟨"PagePoolModel", "trim", "()I"⟩ : MethodName) ∈ gt := gt_in 706 (by decide +kernel) (by decide +kernel)
set_option maxRecDepth 20000 in
theorem m_707 : Cond.instanceMethod (⟨"PagePoolModel", "trim", "()I"⟩ : MethodName) ∈ gt := gt_in 707 (by decide +kernel) (by decide +kernel)
set_option maxRecDepth 20000 in
theorem m_708 : Cond.selects "PagePoolModel" (⟨"PagePoolModel", "trim", "()I"⟩ : MethodName) (⟨"PagePoolModel", "trim", "()I"⟩ : MethodName) ∈ gt := gt_in 708 (by decide +kernel) (by decide +kernel)
set_option maxRecDepth 20000 in
theorem m_709 : Cond.code (⟨"PagePoolModel", "trim", "()I"⟩ : MethodName) prog_7_method_31_code 5 (some .int) ∈ gt := gt_in 709 (by decide +kernel) (by decide +kernel)
set_option maxRecDepth 20000 in
theorem m_139 : Cond.methodLink "PagePoolLaw" 99 (⟨"PagePool", "changed", "()I"⟩ : MethodName) ∈ gt := gt_in 139 (by decide +kernel) (by decide +kernel)
set_option maxRecDepth 20000 in
theorem m_140 : Cond.instanceMethod (⟨"PagePool", "changed", "()I"⟩ : MethodName) ∈ gt := gt_in 140 (by decide +kernel) (by decide +kernel)
set_option maxRecDepth 20000 in
theorem m_141 : Cond.selects "PagePool" (⟨"PagePool", "changed", "()I"⟩ : MethodName) (⟨"PagePool", "changed", "()I"⟩ : MethodName) ∈ gt := gt_in 141 (by decide +kernel) (by decide +kernel)
set_option maxRecDepth 20000 in
theorem m_142 : Cond.code (⟨"PagePool", "changed", "()I"⟩ : MethodName) prog_1_method_11_code 3 (some .int) ∈ gt := gt_in 142 (by decide +kernel) (by decide +kernel)
set_option maxRecDepth 20000 in
theorem m_710 : Cond.methodLink "PagePoolLaw" 102 (⟨"PagePoolModel", "changed", "()I"⟩ : MethodName) ∈ gt := gt_in 710 (by decide +kernel) (by decide +kernel)
set_option maxRecDepth 20000 in
theorem m_711 : Cond.instanceMethod (⟨"PagePoolModel", "changed", "()I"⟩ : MethodName) ∈ gt := gt_in 711 (by decide +kernel) (by decide +kernel)
set_option maxRecDepth 20000 in
theorem m_712 : Cond.selects "PagePoolModel" (⟨"PagePoolModel", "changed", "()I"⟩ : MethodName) (⟨"PagePoolModel", "changed", "()I"⟩ : MethodName) ∈ gt := gt_in 712 (by decide +kernel) (by decide +kernel)
set_option maxRecDepth 20000 in
theorem m_713 : Cond.code (⟨"PagePoolModel", "changed", "()I"⟩ : MethodName) prog_7_method_32_code 3 (some .int) ∈ gt := gt_in 713 (by decide +kernel) (by decide +kernel)
set_option maxRecDepth 20000 in
theorem m_147 : Cond.methodLink "PagePoolLaw" 103 (⟨"PagePool", "oldest", "(I)I"⟩ : MethodName) ∈ gt := gt_in 147 (by decide +kernel) (by decide +kernel)
set_option maxRecDepth 20000 in
theorem m_714 : Cond.methodLink "PagePoolLaw" 106 (⟨"PagePoolModel", "oldest", "(I)I"⟩ : MethodName) ∈ gt := gt_in 714 (by decide +kernel) (by decide +kernel)
set_option maxRecDepth 20000 in
theorem m_715 : Cond.instanceMethod (⟨"PagePoolModel", "oldest", "(I)I"⟩ : MethodName) ∈ gt := gt_in 715 (by decide +kernel) (by decide +kernel)
set_option maxRecDepth 20000 in
theorem m_716 : Cond.selects "PagePoolModel" (⟨"PagePoolModel", "oldest", "(I)I"⟩ : MethodName) (⟨"PagePoolModel", "oldest", "(I)I"⟩ : MethodName) ∈ gt := gt_in 716 (by decide +kernel) (by decide +kernel)
set_option maxRecDepth 20000 in
theorem m_717 : Cond.code (⟨"PagePoolModel", "oldest", "(I)I"⟩ : MethodName) prog_7_method_33_code 2 (some .int) ∈ gt := gt_in 717 (by decide +kernel) (by decide +kernel)
set_option maxRecDepth 20000 in
theorem m_443 : Cond.methodLink "PagePoolLaw" 107 (⟨"PagePoolLaw", "log", "(LPagePool;I[J)I"⟩ : MethodName) ∈ gt := gt_in 443 (by decide +kernel) (by decide +kernel)
set_option maxRecDepth 20000 in
theorem m_444 : Cond.static (⟨"PagePoolLaw", "log", "(LPagePool;I[J)I"⟩ : MethodName) ∈ gt := gt_in 444 (by decide +kernel) (by decide +kernel)
set_option maxRecDepth 20000 in
theorem m_445 : Cond.codeWith (⟨"PagePoolLaw", "log", "(LPagePool;I[J)I"⟩ : MethodName) method_12_code 4 (some .int) [(0, 9, 12, 15)] ∈ gt := gt_in 445 (by decide +kernel) (by decide +kernel)
set_option maxRecDepth 20000 in
theorem m_726 : Cond.methodLink "PagePoolLaw" 109 (⟨"PagePoolModel", "log", "(I)I"⟩ : MethodName) ∈ gt := gt_in 726 (by decide +kernel) (by decide +kernel)
set_option maxRecDepth 20000 in
theorem m_727 : Cond.instanceMethod (⟨"PagePoolModel", "log", "(I)I"⟩ : MethodName) ∈ gt := gt_in 727 (by decide +kernel) (by decide +kernel)
set_option maxRecDepth 20000 in
theorem m_728 : Cond.selects "PagePoolModel" (⟨"PagePoolModel", "log", "(I)I"⟩ : MethodName) (⟨"PagePoolModel", "log", "(I)I"⟩ : MethodName) ∈ gt := gt_in 728 (by decide +kernel) (by decide +kernel)
set_option maxRecDepth 20000 in
theorem m_729 : Cond.code (⟨"PagePoolModel", "log", "(I)I"⟩ : MethodName) prog_7_method_36_code 2 (some .int) ∈ gt := gt_in 729 (by decide +kernel) (by decide +kernel)
set_option maxRecDepth 20000 in
theorem m_451 : Cond.methodLink "PagePoolLaw" 110 (⟨"PagePoolLaw", "onMedium", "(LPagePool;II[J)I"⟩ : MethodName) ∈ gt := gt_in 451 (by decide +kernel) (by decide +kernel)
set_option maxRecDepth 20000 in
theorem m_452 : Cond.static (⟨"PagePoolLaw", "onMedium", "(LPagePool;II[J)I"⟩ : MethodName) ∈ gt := gt_in 452 (by decide +kernel) (by decide +kernel)
set_option maxRecDepth 20000 in
theorem m_453 : Cond.codeWith (⟨"PagePoolLaw", "onMedium", "(LPagePool;II[J)I"⟩ : MethodName) method_13_code 5 (some .int) [(0, 10, 13, 15)] ∈ gt := gt_in 453 (by decide +kernel) (by decide +kernel)
set_option maxRecDepth 20000 in
theorem m_730 : Cond.methodLink "PagePoolLaw" 112 (⟨"PagePoolModel", "onMedium", "(II)I"⟩ : MethodName) ∈ gt := gt_in 730 (by decide +kernel) (by decide +kernel)
set_option maxRecDepth 20000 in
theorem m_731 : Cond.instanceMethod (⟨"PagePoolModel", "onMedium", "(II)I"⟩ : MethodName) ∈ gt := gt_in 731 (by decide +kernel) (by decide +kernel)
set_option maxRecDepth 20000 in
theorem m_732 : Cond.selects "PagePoolModel" (⟨"PagePoolModel", "onMedium", "(II)I"⟩ : MethodName) (⟨"PagePoolModel", "onMedium", "(II)I"⟩ : MethodName) ∈ gt := gt_in 732 (by decide +kernel) (by decide +kernel)
set_option maxRecDepth 20000 in
theorem m_733 : Cond.code (⟨"PagePoolModel", "onMedium", "(II)I"⟩ : MethodName) prog_7_method_37_code 3 (some .int) ∈ gt := gt_in 733 (by decide +kernel) (by decide +kernel)
set_option maxRecDepth 20000 in
theorem m_155 : Cond.methodLink "PagePoolLaw" 113 (⟨"PagePool", "torn", "()I"⟩ : MethodName) ∈ gt := gt_in 155 (by decide +kernel) (by decide +kernel)
set_option maxRecDepth 20000 in
theorem m_156 : Cond.instanceMethod (⟨"PagePool", "torn", "()I"⟩ : MethodName) ∈ gt := gt_in 156 (by decide +kernel) (by decide +kernel)
set_option maxRecDepth 20000 in
theorem m_157 : Cond.selects "PagePool" (⟨"PagePool", "torn", "()I"⟩ : MethodName) (⟨"PagePool", "torn", "()I"⟩ : MethodName) ∈ gt := gt_in 157 (by decide +kernel) (by decide +kernel)
set_option maxRecDepth 20000 in
theorem m_158 : Cond.code (⟨"PagePool", "torn", "()I"⟩ : MethodName) prog_1_method_15_code 1 (some .int) ∈ gt := gt_in 158 (by decide +kernel) (by decide +kernel)
set_option maxRecDepth 20000 in
theorem m_734 : Cond.methodLink "PagePoolLaw" 116 (⟨"PagePoolModel", "torn", "()I"⟩ : MethodName) ∈ gt := gt_in 734 (by decide +kernel) (by decide +kernel)
set_option maxRecDepth 20000 in
theorem m_735 : Cond.instanceMethod (⟨"PagePoolModel", "torn", "()I"⟩ : MethodName) ∈ gt := gt_in 735 (by decide +kernel) (by decide +kernel)
set_option maxRecDepth 20000 in
theorem m_736 : Cond.selects "PagePoolModel" (⟨"PagePoolModel", "torn", "()I"⟩ : MethodName) (⟨"PagePoolModel", "torn", "()I"⟩ : MethodName) ∈ gt := gt_in 736 (by decide +kernel) (by decide +kernel)
set_option maxRecDepth 20000 in
theorem m_737 : Cond.code (⟨"PagePoolModel", "torn", "()I"⟩ : MethodName) prog_7_method_38_code 1 (some .int) ∈ gt := gt_in 737 (by decide +kernel) (by decide +kernel)
set_option maxRecDepth 20000 in
theorem m_159 : Cond.methodLink "PagePoolLaw" 117 (⟨"PagePool", "writes", "()I"⟩ : MethodName) ∈ gt := gt_in 159 (by decide +kernel) (by decide +kernel)
set_option maxRecDepth 20000 in
theorem m_160 : Cond.instanceMethod (⟨"PagePool", "writes", "()I"⟩ : MethodName) ∈ gt := gt_in 160 (by decide +kernel) (by decide +kernel)
set_option maxRecDepth 20000 in
theorem m_161 : Cond.selects "PagePool" (⟨"PagePool", "writes", "()I"⟩ : MethodName) (⟨"PagePool", "writes", "()I"⟩ : MethodName) ∈ gt := gt_in 161 (by decide +kernel) (by decide +kernel)
set_option maxRecDepth 20000 in
theorem m_162 : Cond.code (⟨"PagePool", "writes", "()I"⟩ : MethodName) prog_1_method_16_code 1 (some .int) ∈ gt := gt_in 162 (by decide +kernel) (by decide +kernel)
set_option maxRecDepth 20000 in
theorem m_738 : Cond.methodLink "PagePoolLaw" 120 (⟨"PagePoolModel", "writes", "()I"⟩ : MethodName) ∈ gt := gt_in 738 (by decide +kernel) (by decide +kernel)
set_option maxRecDepth 20000 in
theorem m_739 : Cond.instanceMethod (⟨"PagePoolModel", "writes", "()I"⟩ : MethodName) ∈ gt := gt_in 739 (by decide +kernel) (by decide +kernel)
set_option maxRecDepth 20000 in
theorem m_740 : Cond.selects "PagePoolModel" (⟨"PagePoolModel", "writes", "()I"⟩ : MethodName) (⟨"PagePoolModel", "writes", "()I"⟩ : MethodName) ∈ gt := gt_in 740 (by decide +kernel) (by decide +kernel)
set_option maxRecDepth 20000 in
theorem m_741 : Cond.code (⟨"PagePoolModel", "writes", "()I"⟩ : MethodName) prog_7_method_39_code 1 (some .int) ∈ gt := gt_in 741 (by decide +kernel) (by decide +kernel)
set_option maxRecDepth 20000 in
theorem m_458 : Cond.methodLink "PagePoolLaw" 121 (⟨"PagePoolLaw", "cutAfter", "(LPagePool;I)I"⟩ : MethodName) ∈ gt := gt_in 458 (by decide +kernel) (by decide +kernel)
set_option maxRecDepth 20000 in
theorem m_459 : Cond.static (⟨"PagePoolLaw", "cutAfter", "(LPagePool;I)I"⟩ : MethodName) ∈ gt := gt_in 459 (by decide +kernel) (by decide +kernel)
set_option maxRecDepth 20000 in
theorem m_460 : Cond.codeWith (⟨"PagePoolLaw", "cutAfter", "(LPagePool;I)I"⟩ : MethodName) method_14_code 3 (some .int) [(0, 5, 8, 54)] ∈ gt := gt_in 460 (by decide +kernel) (by decide +kernel)
set_option maxRecDepth 20000 in
theorem m_600 : Cond.methodLink "PagePoolLaw" 124 (⟨"PagePoolModel", "cutAfter", "(I)V"⟩ : MethodName) ∈ gt := gt_in 600 (by decide +kernel) (by decide +kernel)
set_option maxRecDepth 20000 in
theorem m_601 : Cond.instanceMethod (⟨"PagePoolModel", "cutAfter", "(I)V"⟩ : MethodName) ∈ gt := gt_in 601 (by decide +kernel) (by decide +kernel)
set_option maxRecDepth 20000 in
theorem m_602 : Cond.selects "PagePoolModel" (⟨"PagePoolModel", "cutAfter", "(I)V"⟩ : MethodName) (⟨"PagePoolModel", "cutAfter", "(I)V"⟩ : MethodName) ∈ gt := gt_in 602 (by decide +kernel) (by decide +kernel)
set_option maxRecDepth 20000 in
theorem m_603 : Cond.code (⟨"PagePoolModel", "cutAfter", "(I)V"⟩ : MethodName) prog_7_method_8_code 2 none ∈ gt := gt_in 603 (by decide +kernel) (by decide +kernel)
set_option maxRecDepth 20000 in
theorem m_163 : Cond.methodLink "PagePoolLaw" 125 (⟨"PagePool", "cut", "()Z"⟩ : MethodName) ∈ gt := gt_in 163 (by decide +kernel) (by decide +kernel)
set_option maxRecDepth 20000 in
theorem m_164 : Cond.instanceMethod (⟨"PagePool", "cut", "()Z"⟩ : MethodName) ∈ gt := gt_in 164 (by decide +kernel) (by decide +kernel)
set_option maxRecDepth 20000 in
theorem m_165 : Cond.selects "PagePool" (⟨"PagePool", "cut", "()Z"⟩ : MethodName) (⟨"PagePool", "cut", "()Z"⟩ : MethodName) ∈ gt := gt_in 165 (by decide +kernel) (by decide +kernel)
set_option maxRecDepth 20000 in
theorem m_166 : Cond.code (⟨"PagePool", "cut", "()Z"⟩ : MethodName) prog_1_method_18_code 1 (some .boolean) ∈ gt := gt_in 166 (by decide +kernel) (by decide +kernel)
set_option maxRecDepth 20000 in
theorem m_608 : Cond.methodLink "PagePoolLaw" 129 (⟨"PagePoolModel", "cut", "()Z"⟩ : MethodName) ∈ gt := gt_in 608 (by decide +kernel) (by decide +kernel)
set_option maxRecDepth 20000 in
theorem m_609 : Cond.instanceMethod (⟨"PagePoolModel", "cut", "()Z"⟩ : MethodName) ∈ gt := gt_in 609 (by decide +kernel) (by decide +kernel)
set_option maxRecDepth 20000 in
theorem m_610 : Cond.selects "PagePoolModel" (⟨"PagePoolModel", "cut", "()Z"⟩ : MethodName) (⟨"PagePoolModel", "cut", "()Z"⟩ : MethodName) ∈ gt := gt_in 610 (by decide +kernel) (by decide +kernel)
set_option maxRecDepth 20000 in
theorem m_611 : Cond.code (⟨"PagePoolModel", "cut", "()Z"⟩ : MethodName) prog_7_method_9_code 1 (some .boolean) ∈ gt := gt_in 611 (by decide +kernel) (by decide +kernel)
set_option maxRecDepth 20000 in
theorem m_482 : Cond.methodLink "PagePoolLaw" 130 (⟨"PagePoolLaw", "start", "(LPagePool;[J)I"⟩ : MethodName) ∈ gt := gt_in 482 (by decide +kernel) (by decide +kernel)
set_option maxRecDepth 20000 in
theorem m_483 : Cond.static (⟨"PagePoolLaw", "start", "(LPagePool;[J)I"⟩ : MethodName) ∈ gt := gt_in 483 (by decide +kernel) (by decide +kernel)
set_option maxRecDepth 20000 in
theorem m_484 : Cond.codeWith (⟨"PagePoolLaw", "start", "(LPagePool;[J)I"⟩ : MethodName) method_15_code 3 (some .int) [(0, 8, 11, 13)] ∈ gt := gt_in 484 (by decide +kernel) (by decide +kernel)
set_option maxRecDepth 20000 in
theorem m_718 : Cond.methodLink "PagePoolLaw" 132 (⟨"PagePoolModel", "start", "()I"⟩ : MethodName) ∈ gt := gt_in 718 (by decide +kernel) (by decide +kernel)
set_option maxRecDepth 20000 in
theorem m_719 : Cond.instanceMethod (⟨"PagePoolModel", "start", "()I"⟩ : MethodName) ∈ gt := gt_in 719 (by decide +kernel) (by decide +kernel)
set_option maxRecDepth 20000 in
theorem m_720 : Cond.selects "PagePoolModel" (⟨"PagePoolModel", "start", "()I"⟩ : MethodName) (⟨"PagePoolModel", "start", "()I"⟩ : MethodName) ∈ gt := gt_in 720 (by decide +kernel) (by decide +kernel)
set_option maxRecDepth 20000 in
theorem m_721 : Cond.code (⟨"PagePoolModel", "start", "()I"⟩ : MethodName) prog_7_method_35_code 5 (some .int) ∈ gt := gt_in 721 (by decide +kernel) (by decide +kernel)
set_option maxRecDepth 20000 in
theorem m_179 : Cond.methodLink "PagePoolLaw" 133 (⟨"PagePool", "isOn", "()Z"⟩ : MethodName) ∈ gt := gt_in 179 (by decide +kernel) (by decide +kernel)
set_option maxRecDepth 20000 in
theorem m_180 : Cond.instanceMethod (⟨"PagePool", "isOn", "()Z"⟩ : MethodName) ∈ gt := gt_in 180 (by decide +kernel) (by decide +kernel)
set_option maxRecDepth 20000 in
theorem m_181 : Cond.selects "PagePool" (⟨"PagePool", "isOn", "()Z"⟩ : MethodName) (⟨"PagePool", "isOn", "()Z"⟩ : MethodName) ∈ gt := gt_in 181 (by decide +kernel) (by decide +kernel)
set_option maxRecDepth 20000 in
theorem m_182 : Cond.code (⟨"PagePool", "isOn", "()Z"⟩ : MethodName) prog_1_method_20_code 1 (some .boolean) ∈ gt := gt_in 182 (by decide +kernel) (by decide +kernel)
set_option maxRecDepth 20000 in
theorem m_616 : Cond.methodLink "PagePoolLaw" 136 (⟨"PagePoolModel", "isOn", "()Z"⟩ : MethodName) ∈ gt := gt_in 616 (by decide +kernel) (by decide +kernel)
set_option maxRecDepth 20000 in
theorem m_617 : Cond.instanceMethod (⟨"PagePoolModel", "isOn", "()Z"⟩ : MethodName) ∈ gt := gt_in 617 (by decide +kernel) (by decide +kernel)
set_option maxRecDepth 20000 in
theorem m_618 : Cond.selects "PagePoolModel" (⟨"PagePoolModel", "isOn", "()Z"⟩ : MethodName) (⟨"PagePoolModel", "isOn", "()Z"⟩ : MethodName) ∈ gt := gt_in 618 (by decide +kernel) (by decide +kernel)
set_option maxRecDepth 20000 in
theorem m_619 : Cond.code (⟨"PagePoolModel", "isOn", "()Z"⟩ : MethodName) prog_7_method_10_code 1 (some .boolean) ∈ gt := gt_in 619 (by decide +kernel) (by decide +kernel)
set_option maxHeartbeats 4000000 in
set_option maxRecDepth 100000 in
theorem k_fix (hl9 : l.stackTraces = false) (F : CallFix p m c b_L_law 7 s args gt R_L) (w : gW D cI cF cZ cJ ad ad2 o σ τ f s H locs) (hT : tF (fun q : Nat => s.heap.size ≤ q) s s.heap) (hN : nC s) (hX : va_X b L xs s s.heap) (hbl : b < s.heap.size) (hL : L ≤ 2048) (hi : i + 4 ≤ L) (hJ : J B σ τ) (hB : B + 16 < 2 ^ 30) (hc : cells + 5 ≤ room_1.cells) (hs : slots + 30 ≤ room_1.slots) (hl : lv_has ls 7 [(0, .ref b), (1, .ref (ad 0)), (2, .ref (ad2 0)), (3, .ref o), (4, .int (nI i))])
    (kk : ∀ (σ1 τ1 : Mem) (f1 : Nat → Int64) (H1 : Heap) (locs1 : List Loc) (ls1 : Array Slot), J (B + 16) σ1 τ1 → gW D cI cF cZ cJ ad ad2 o σ1 τ1 f1 s H1 locs1 → lv_has ls1 7 [(0, .ref b), (1, .ref (ad 0)), (2, .ref (ad2 0)), (3, .ref o), (4, .int (nI i))] → W p l e room_1 s m args below meth c H1 locs1 (cells + 5) (slots + 30) Q (F0 m 938 ls1 [])) : W p l e room_1 s m args below meth c H locs cells slots Q (F0 m 128 ls []) := by
  obtain ⟨hx, hb, hml, hown, hts⟩ := id F
  have hA := j_fix hJ hB (xs (i + 1))
  have hok := hJ.ok (show B < 2 ^ 30 by omega)
  have hW := c_L_fix (l := l) (D := D) (cI := cI) (cF := cF) (cZ := cZ) (cJ := cJ) (ad := ad) (o := o) hl9 σ (xs (i + 1)) hok.1 hok.2.1 hA.2.2.2.1 hA.2.2.2.2
  have hR := c_R_fix (l := l) (D := D) (cI := cI) (cF := cF) (cZ := cZ) (cJ := cJ) (ad := ad2) τ (xs (i + 1)) hok.2.2.1 hok.2.2.2
  generalize xFix σ (xs (i + 1)) = x at hA hW
  generalize qFixP τ (xs (i + 1)) = y at hA hR
  obtain ⟨hthr, hans, hJ1, -, hks⟩ := hA
  refine lv_aload_n hx hb d_L_law_128 rfl (lv_at hl 1 rfl) ?_
  refine lv_aload_n hx hb d_L_law_129 rfl (lv_at hl 0 rfl) ?_
  refine lv_iload hx hb d_L_law_130 (lv_at hl 4 rfl) ?_
  refine lv_iconst (v := nI 1) hx hb d_L_law_132 (by decide) ?_
  refine nr_iadd hx hb d_L_law_133 ?_
  refine lr_arg F w hX hbl (show i + 1 < L by omega) hL d_L_law_134 ?_
  refine lv_aload_n hx hb d_L_law_135 rfl (lv_at hl 3 rfl) ?_
  refine lr_wrap (As := [.ref (ad 0), .int (xs (i + 1)), .ref o]) F w hT hN hl.1 hW (vx_cwSW 3 hts (gd_S m_183 m_184 m_0 m_185) rfl rfl rfl (by decide +kernel) ⟨Nat.le_of_ble_eq_true rfl, Nat.le_of_ble_eq_true rfl⟩) rfl rfl (Nat.le_of_ble_eq_true rfl) d_L_law_136 ⟨Nat.le_trans (Nat.add_le_add_left (Nat.le_of_ble_eq_true rfl) _) hc, Nat.le_trans (Nat.add_le_add_left (Nat.le_of_ble_eq_true rfl) _) hs⟩ (fun f1 H1 locs1 hf1 w => ?_)
  refine W.widen (k := cells + 5) (n := slots + 30) (Nat.add_le_add_left (Nat.le_of_ble_eq_true rfl) _) (Nat.add_le_add_left (Nat.le_of_ble_eq_true rfl) _) ?_
  refine lv_istore (lv' := [(5, .int (nI (gId x.1))), (0, .ref b), (1, .ref (ad 0)), (2, .ref (ad2 0)), (3, .ref o), (4, .int (nI i))]) hx hb d_L_law_139 hl (by decide) rfl (fun ls hl => ?_)
  refine lv_aload_n hx hb d_L_law_141 rfl (lv_at hl 3 rfl) ?_
  refine lv_aload_n hx hb d_L_law_142 rfl (lv_at hl 1 rfl) ?_
  refine lv_iload hx hb d_L_law_143 (lv_at hl 5 rfl) ?_
  refine lv_iconst (v := nI 1) hx hb d_L_law_145 (by decide) ?_
  refine nr_iadd hx hb d_L_law_146 ?_
  refine lr_arg F w hX hbl (show i + 1 < L by omega) hL d_L_law_147 ?_
  refine lr_refI (As := [.int (xs (i + 1))]) F w hl.1 hR (cwV 1 hts (gd_gt m_635 (kwV m_632 m_633 m_634 m_6 m_635)) rfl rfl rfl (by decide +kernel) ⟨Nat.le_of_ble_eq_true rfl, Nat.le_of_ble_eq_true rfl⟩) rfl rfl (Nat.le_of_ble_eq_true rfl) d_L_law_148 ⟨hc, hs⟩ (fun r2 τ1 H1 locs1 hp w => ?_)
  obtain ⟨hr2, hs2⟩ := hp
  rw [hs2] at w
  rw [hr2]
  refine lv_istore (lv' := [(6, .int y.1), (5, .int (nI (gId x.1))), (0, .ref b), (1, .ref (ad 0)), (2, .ref (ad2 0)), (3, .ref o), (4, .int (nI i))]) hx hb d_L_law_151 hl (by decide) rfl (fun ls hl => ?_)
  refine lv_aload_n hx hb d_L_law_153 rfl (lv_at hl 4 rfl) ?_
  refine lr_refI (As := []) F w hl.1 (c_R_thrown (l := l) (D := D) (cI := cI) (cF := cF) (cZ := cZ) (cJ := cJ) (ad := ad2) y.2) (cwV 0 hts (gd_gt m_599 (kwV m_596 m_597 m_598 m_6 m_599)) rfl rfl rfl (by decide +kernel) ⟨Nat.le_of_ble_eq_true rfl, Nat.le_of_ble_eq_true rfl⟩) rfl rfl (Nat.le_of_ble_eq_true rfl) d_L_law_154 ⟨hc, hs⟩ (fun r3 τ2 H1 locs1 hp w => ?_)
  obtain ⟨hr3, hs3⟩ := hp
  rw [hs3] at w
  rw [hr3]
  refine lv_iload hx hb d_L_law_157 (lv_at hl 1 rfl) ?_
  refine lv_icmp_eq (tgt := 164) hx hb d_L_law_159 (by decide) (fun _ => ?_) (fun c9 => absurd hthr c9)
  refine lv_iload hx hb d_L_law_164 (lv_at hl 1 rfl) ?_
  refine lv_if_ne (tgt := 181) hx hb d_L_law_166 (by decide) (fun _ => ?_) (fun c9 => ?_)
  · skip
    refine lv_goto (tgt := 938) hx hb d_L_law_181 (by decide) ?_
    exact kk _ _ f1 H1 locs1 ls hJ1 w (lv_sub hl [2, 3, 4, 5, 6] rfl)
  · have h0 : x.1 = 0 := gId_0 hks c9
    have hf0 : f1 0 = y.1.toInt64 := by rw [hf1 rfl h0, hans h0]
    refine lv_aload_n hx hb d_L_law_169 rfl (lv_at hl 5 rfl) ?_
    refine lv_iconst (v := 0) hx hb d_L_law_170 (by decide) ?_
    refine lr_lald F w d_L_law_171 ?_
    rw [hf0]
    refine lv_iload hx hb d_L_law_172 (lv_at hl 0 rfl) ?_
    refine lv_i2l hx hb d_L_law_174 rfl ?_
    refine nr_lcmpEq hx hb d_L_law_175 ?_
    refine lv_if_eq (tgt := 181) hx hb d_L_law_176 (by decide) (fun _ => ?_) (fun c8 => absurd rfl c8)
    refine lv_goto (tgt := 938) hx hb d_L_law_181 (by decide) ?_
    exact kk _ _ f1 H1 locs1 ls hJ1 w (lv_sub hl [2, 3, 4, 5, 6] rfl)
set_option maxHeartbeats 4000000 in
set_option maxRecDepth 100000 in
theorem k_unfix (hl9 : l.stackTraces = false) (F : CallFix p m c b_L_law 7 s args gt R_L) (w : gW D cI cF cZ cJ ad ad2 o σ τ f s H locs) (hT : tF (fun q : Nat => s.heap.size ≤ q) s s.heap) (hN : nC s) (hX : va_X b L xs s s.heap) (hbl : b < s.heap.size) (hL : L ≤ 2048) (hi : i + 4 ≤ L) (hJ : J B σ τ) (hB : B + 16 < 2 ^ 30) (hc : cells + 5 ≤ room_1.cells) (hs : slots + 30 ≤ room_1.slots) (hl : lv_has ls 7 [(0, .ref b), (1, .ref (ad 0)), (2, .ref (ad2 0)), (3, .ref o), (4, .int (nI i))])
    (kk : ∀ (σ1 τ1 : Mem) (f1 : Nat → Int64) (H1 : Heap) (locs1 : List Loc) (ls1 : Array Slot), J (B + 16) σ1 τ1 → gW D cI cF cZ cJ ad ad2 o σ1 τ1 f1 s H1 locs1 → lv_has ls1 7 [(0, .ref b), (1, .ref (ad 0)), (2, .ref (ad2 0)), (3, .ref o), (4, .int (nI i))] → W p l e room_1 s m args below meth c H1 locs1 (cells + 5) (slots + 30) Q (F0 m 938 ls1 [])) : W p l e room_1 s m args below meth c H locs cells slots Q (F0 m 184 ls []) := by
  obtain ⟨hx, hb, hml, hown, hts⟩ := id F
  have hA := j_unfix hJ hB (xs (i + 1))
  have hok := hJ.ok (show B < 2 ^ 30 by omega)
  have hW := c_L_unfix (l := l) (D := D) (cI := cI) (cF := cF) (cZ := cZ) (cJ := cJ) (ad := ad) (o := o) hl9 σ (xs (i + 1))  hA.2.2.2.1 hA.2.2.2.2
  have hR := c_R_unfix (l := l) (D := D) (cI := cI) (cF := cF) (cZ := cZ) (cJ := cJ) (ad := ad2) τ (xs (i + 1)) 
  generalize xUnfix σ (xs (i + 1)) = x at hA hW
  generalize qUnfix τ (xs (i + 1)) = y at hA hR
  obtain ⟨hthr, hans, hJ1, -, hks⟩ := hA
  refine lv_aload_n hx hb d_L_law_184 rfl (lv_at hl 1 rfl) ?_
  refine lv_aload_n hx hb d_L_law_185 rfl (lv_at hl 0 rfl) ?_
  refine lv_iload hx hb d_L_law_186 (lv_at hl 4 rfl) ?_
  refine lv_iconst (v := nI 1) hx hb d_L_law_188 (by decide) ?_
  refine nr_iadd hx hb d_L_law_189 ?_
  refine lr_arg F w hX hbl (show i + 1 < L by omega) hL d_L_law_190 ?_
  refine lv_aload_n hx hb d_L_law_191 rfl (lv_at hl 3 rfl) ?_
  refine lr_wrap (As := [.ref (ad 0), .int (xs (i + 1)), .ref o]) F w hT hN hl.1 hW (vx_cwSW 3 hts (gd_S m_332 m_333 m_0 m_334) rfl rfl rfl (by decide +kernel) ⟨Nat.le_of_ble_eq_true rfl, Nat.le_of_ble_eq_true rfl⟩) rfl rfl (Nat.le_of_ble_eq_true rfl) d_L_law_192 ⟨Nat.le_trans (Nat.add_le_add_left (Nat.le_of_ble_eq_true rfl) _) hc, Nat.le_trans (Nat.add_le_add_left (Nat.le_of_ble_eq_true rfl) _) hs⟩ (fun f1 H1 locs1 hf1 w => ?_)
  refine W.widen (k := cells + 5) (n := slots + 30) (Nat.add_le_add_left (Nat.le_of_ble_eq_true rfl) _) (Nat.add_le_add_left (Nat.le_of_ble_eq_true rfl) _) ?_
  refine lv_istore (lv' := [(5, .int (nI (gId x.1))), (0, .ref b), (1, .ref (ad 0)), (2, .ref (ad2 0)), (3, .ref o), (4, .int (nI i))]) hx hb d_L_law_195 hl (by decide) rfl (fun ls hl => ?_)
  refine lv_aload_n hx hb d_L_law_197 rfl (lv_at hl 3 rfl) ?_
  refine lv_aload_n hx hb d_L_law_198 rfl (lv_at hl 1 rfl) ?_
  refine lv_iload hx hb d_L_law_199 (lv_at hl 5 rfl) ?_
  refine lv_iconst (v := nI 1) hx hb d_L_law_201 (by decide) ?_
  refine nr_iadd hx hb d_L_law_202 ?_
  refine lr_arg F w hX hbl (show i + 1 < L by omega) hL d_L_law_203 ?_
  refine lr_refI (As := [.int (xs (i + 1))]) F w hl.1 hR (cwV 1 hts (gd_gt m_670 (kwV m_667 m_668 m_669 m_6 m_670)) rfl rfl rfl (by decide +kernel) ⟨Nat.le_of_ble_eq_true rfl, Nat.le_of_ble_eq_true rfl⟩) rfl rfl (Nat.le_of_ble_eq_true rfl) d_L_law_204 ⟨hc, hs⟩ (fun r2 τ1 H1 locs1 hp w => ?_)
  obtain ⟨hr2, hs2⟩ := hp
  rw [hs2] at w
  rw [hr2]
  refine lv_istore (lv' := [(6, .int y.1), (5, .int (nI (gId x.1))), (0, .ref b), (1, .ref (ad 0)), (2, .ref (ad2 0)), (3, .ref o), (4, .int (nI i))]) hx hb d_L_law_207 hl (by decide) rfl (fun ls hl => ?_)
  refine lv_aload_n hx hb d_L_law_209 rfl (lv_at hl 4 rfl) ?_
  refine lr_refI (As := []) F w hl.1 (c_R_thrown (l := l) (D := D) (cI := cI) (cF := cF) (cZ := cZ) (cJ := cJ) (ad := ad2) y.2) (cwV 0 hts (gd_gt m_599 (kwV m_596 m_597 m_598 m_6 m_599)) rfl rfl rfl (by decide +kernel) ⟨Nat.le_of_ble_eq_true rfl, Nat.le_of_ble_eq_true rfl⟩) rfl rfl (Nat.le_of_ble_eq_true rfl) d_L_law_210 ⟨hc, hs⟩ (fun r3 τ2 H1 locs1 hp w => ?_)
  obtain ⟨hr3, hs3⟩ := hp
  rw [hs3] at w
  rw [hr3]
  refine lv_iload hx hb d_L_law_213 (lv_at hl 1 rfl) ?_
  refine lv_icmp_eq (tgt := 220) hx hb d_L_law_215 (by decide) (fun _ => ?_) (fun c9 => absurd hthr c9)
  refine lv_iload hx hb d_L_law_220 (lv_at hl 1 rfl) ?_
  refine lv_if_ne (tgt := 237) hx hb d_L_law_222 (by decide) (fun _ => ?_) (fun c9 => ?_)
  · skip
    refine lv_goto (tgt := 938) hx hb d_L_law_237 (by decide) ?_
    exact kk _ _ f1 H1 locs1 ls hJ1 w (lv_sub hl [2, 3, 4, 5, 6] rfl)
  · have h0 : x.1 = 0 := gId_0 hks c9
    have hf0 : f1 0 = y.1.toInt64 := by rw [hf1 rfl h0, hans h0]
    refine lv_aload_n hx hb d_L_law_225 rfl (lv_at hl 5 rfl) ?_
    refine lv_iconst (v := 0) hx hb d_L_law_226 (by decide) ?_
    refine lr_lald F w d_L_law_227 ?_
    rw [hf0]
    refine lv_iload hx hb d_L_law_228 (lv_at hl 0 rfl) ?_
    refine lv_i2l hx hb d_L_law_230 rfl ?_
    refine nr_lcmpEq hx hb d_L_law_231 ?_
    refine lv_if_eq (tgt := 237) hx hb d_L_law_232 (by decide) (fun _ => ?_) (fun c8 => absurd rfl c8)
    refine lv_goto (tgt := 938) hx hb d_L_law_237 (by decide) ?_
    exact kk _ _ f1 H1 locs1 ls hJ1 w (lv_sub hl [2, 3, 4, 5, 6] rfl)
set_option maxHeartbeats 4000000 in
set_option maxRecDepth 100000 in
theorem k_change (hl9 : l.stackTraces = false) (F : CallFix p m c b_L_law 7 s args gt R_L) (w : gW D cI cF cZ cJ ad ad2 o σ τ f s H locs) (hT : tF (fun q : Nat => s.heap.size ≤ q) s s.heap) (hN : nC s) (hX : va_X b L xs s s.heap) (hbl : b < s.heap.size) (hL : L ≤ 2048) (hi : i + 4 ≤ L) (hJ : J B σ τ) (hB : B + 16 < 2 ^ 30) (hc : cells + 5 ≤ room_1.cells) (hs : slots + 30 ≤ room_1.slots) (hl : lv_has ls 7 [(0, .ref b), (1, .ref (ad 0)), (2, .ref (ad2 0)), (3, .ref o), (4, .int (nI i))])
    (kk : ∀ (σ1 τ1 : Mem) (f1 : Nat → Int64) (H1 : Heap) (locs1 : List Loc) (ls1 : Array Slot), J (B + 16) σ1 τ1 → gW D cI cF cZ cJ ad ad2 o σ1 τ1 f1 s H1 locs1 → lv_has ls1 7 [(0, .ref b), (1, .ref (ad 0)), (2, .ref (ad2 0)), (3, .ref o), (4, .int (nI i))] → W p l e room_1 s m args below meth c H1 locs1 (cells + 5) (slots + 30) Q (F0 m 938 ls1 [])) : W p l e room_1 s m args below meth c H locs cells slots Q (F0 m 240 ls []) := by
  obtain ⟨hx, hb, hml, hown, hts⟩ := id F
  have hA := j_change hJ hB (xs (i + 1)) (xs (i + 2)) (xs (i + 3))
  have hok := hJ.ok (show B < 2 ^ 30 by omega)
  have hW := c_L_change (l := l) (D := D) (cI := cI) (cF := cF) (cZ := cZ) (cJ := cJ) (ad := ad) (o := o) hl9 σ (xs (i + 1)) (xs (i + 2)) (xs (i + 3))  hA.2.2.2.1 hA.2.2.2.2
  have hR := c_R_change (l := l) (D := D) (cI := cI) (cF := cF) (cZ := cZ) (cJ := cJ) (ad := ad2) τ (xs (i + 1)) (xs (i + 2)) (xs (i + 3)) (hJ.e11 (show B < 2 ^ 30 by omega)).1 (hJ.e11 (show B < 2 ^ 30 by omega)).2
  generalize xChange σ (xs (i + 1)) (xs (i + 2)) (xs (i + 3)) = x at hA hW
  generalize qChange τ (xs (i + 1)) (xs (i + 2)) (xs (i + 3)) = y at hA hR
  obtain ⟨hthr, hans, hJ1, -, hks⟩ := hA
  refine lv_aload_n hx hb d_L_law_240 rfl (lv_at hl 1 rfl) ?_
  refine lv_aload_n hx hb d_L_law_241 rfl (lv_at hl 0 rfl) ?_
  refine lv_iload hx hb d_L_law_242 (lv_at hl 4 rfl) ?_
  refine lv_iconst (v := nI 1) hx hb d_L_law_244 (by decide) ?_
  refine nr_iadd hx hb d_L_law_245 ?_
  refine lr_arg F w hX hbl (show i + 1 < L by omega) hL d_L_law_246 ?_
  refine lv_aload_n hx hb d_L_law_247 rfl (lv_at hl 0 rfl) ?_
  refine lv_iload hx hb d_L_law_248 (lv_at hl 4 rfl) ?_
  refine lv_iconst (v := nI 2) hx hb d_L_law_250 (by decide) ?_
  refine nr_iadd hx hb d_L_law_251 ?_
  refine lr_arg F w hX hbl (show i + 2 < L by omega) hL d_L_law_252 ?_
  refine lv_aload_n hx hb d_L_law_253 rfl (lv_at hl 0 rfl) ?_
  refine lv_iload hx hb d_L_law_254 (lv_at hl 4 rfl) ?_
  refine lv_iconst (v := nI 3) hx hb d_L_law_256 (by decide) ?_
  refine nr_iadd hx hb d_L_law_257 ?_
  refine lr_arg F w hX hbl (show i + 3 < L by omega) hL d_L_law_258 ?_
  refine lv_aload_n hx hb d_L_law_259 rfl (lv_at hl 3 rfl) ?_
  refine lr_wrap (As := [.ref (ad 0), .int (xs (i + 1)), .int (xs (i + 2)), .int (xs (i + 3)), .ref o]) F w hT hN hl.1 hW (vx_cwSW 5 hts (gd_S m_348 m_349 m_0 m_350) rfl rfl rfl (by decide +kernel) ⟨Nat.le_of_ble_eq_true rfl, Nat.le_of_ble_eq_true rfl⟩) rfl rfl (Nat.le_of_ble_eq_true rfl) d_L_law_260 ⟨Nat.le_trans (Nat.add_le_add_left (Nat.le_of_ble_eq_true rfl) _) hc, Nat.le_trans (Nat.add_le_add_left (Nat.le_of_ble_eq_true rfl) _) hs⟩ (fun f1 H1 locs1 hf1 w => ?_)
  refine W.widen (k := cells + 5) (n := slots + 30) (Nat.add_le_add_left (Nat.le_of_ble_eq_true rfl) _) (Nat.add_le_add_left (Nat.le_of_ble_eq_true rfl) _) ?_
  refine lv_istore (lv' := [(5, .int (nI (gId x.1))), (0, .ref b), (1, .ref (ad 0)), (2, .ref (ad2 0)), (3, .ref o), (4, .int (nI i))]) hx hb d_L_law_263 hl (by decide) rfl (fun ls hl => ?_)
  refine lv_aload_n hx hb d_L_law_265 rfl (lv_at hl 3 rfl) ?_
  refine lv_aload_n hx hb d_L_law_266 rfl (lv_at hl 1 rfl) ?_
  refine lv_iload hx hb d_L_law_267 (lv_at hl 5 rfl) ?_
  refine lv_iconst (v := nI 1) hx hb d_L_law_269 (by decide) ?_
  refine nr_iadd hx hb d_L_law_270 ?_
  refine lr_arg F w hX hbl (show i + 1 < L by omega) hL d_L_law_271 ?_
  refine lv_aload_n hx hb d_L_law_272 rfl (lv_at hl 1 rfl) ?_
  refine lv_iload hx hb d_L_law_273 (lv_at hl 5 rfl) ?_
  refine lv_iconst (v := nI 2) hx hb d_L_law_275 (by decide) ?_
  refine nr_iadd hx hb d_L_law_276 ?_
  refine lr_arg F w hX hbl (show i + 2 < L by omega) hL d_L_law_277 ?_
  refine lv_aload_n hx hb d_L_law_278 rfl (lv_at hl 1 rfl) ?_
  refine lv_iload hx hb d_L_law_279 (lv_at hl 5 rfl) ?_
  refine lv_iconst (v := nI 3) hx hb d_L_law_281 (by decide) ?_
  refine nr_iadd hx hb d_L_law_282 ?_
  refine lr_arg F w hX hbl (show i + 3 < L by omega) hL d_L_law_283 ?_
  refine lr_refI (As := [.int (xs (i + 1)), .int (xs (i + 2)), .int (xs (i + 3))]) F w hl.1 hR (cwV 3 hts (gd_gt m_677 (kwV m_674 m_675 m_676 m_6 m_677)) rfl rfl rfl (by decide +kernel) ⟨Nat.le_of_ble_eq_true rfl, Nat.le_of_ble_eq_true rfl⟩) rfl rfl (Nat.le_of_ble_eq_true rfl) d_L_law_284 ⟨hc, hs⟩ (fun r2 τ1 H1 locs1 hp w => ?_)
  obtain ⟨hr2, hs2⟩ := hp
  rw [hs2] at w
  rw [hr2]
  refine lv_istore (lv' := [(6, .int y.1), (5, .int (nI (gId x.1))), (0, .ref b), (1, .ref (ad 0)), (2, .ref (ad2 0)), (3, .ref o), (4, .int (nI i))]) hx hb d_L_law_287 hl (by decide) rfl (fun ls hl => ?_)
  refine lv_aload_n hx hb d_L_law_289 rfl (lv_at hl 4 rfl) ?_
  refine lr_refI (As := []) F w hl.1 (c_R_thrown (l := l) (D := D) (cI := cI) (cF := cF) (cZ := cZ) (cJ := cJ) (ad := ad2) y.2) (cwV 0 hts (gd_gt m_599 (kwV m_596 m_597 m_598 m_6 m_599)) rfl rfl rfl (by decide +kernel) ⟨Nat.le_of_ble_eq_true rfl, Nat.le_of_ble_eq_true rfl⟩) rfl rfl (Nat.le_of_ble_eq_true rfl) d_L_law_290 ⟨hc, hs⟩ (fun r3 τ2 H1 locs1 hp w => ?_)
  obtain ⟨hr3, hs3⟩ := hp
  rw [hs3] at w
  rw [hr3]
  refine lv_iload hx hb d_L_law_293 (lv_at hl 1 rfl) ?_
  refine lv_icmp_eq (tgt := 300) hx hb d_L_law_295 (by decide) (fun _ => ?_) (fun c9 => absurd hthr c9)
  refine lv_iload hx hb d_L_law_300 (lv_at hl 1 rfl) ?_
  refine lv_if_ne (tgt := 317) hx hb d_L_law_302 (by decide) (fun _ => ?_) (fun c9 => ?_)
  · skip
    refine lv_goto (tgt := 938) hx hb d_L_law_317 (by decide) ?_
    exact kk _ _ f1 H1 locs1 ls hJ1 w (lv_sub hl [2, 3, 4, 5, 6] rfl)
  · have h0 : x.1 = 0 := gId_0 hks c9
    have hf0 : f1 0 = y.1.toInt64 := by rw [hf1 rfl h0, hans h0]
    refine lv_aload_n hx hb d_L_law_305 rfl (lv_at hl 5 rfl) ?_
    refine lv_iconst (v := 0) hx hb d_L_law_306 (by decide) ?_
    refine lr_lald F w d_L_law_307 ?_
    rw [hf0]
    refine lv_iload hx hb d_L_law_308 (lv_at hl 0 rfl) ?_
    refine lv_i2l hx hb d_L_law_310 rfl ?_
    refine nr_lcmpEq hx hb d_L_law_311 ?_
    refine lv_if_eq (tgt := 317) hx hb d_L_law_312 (by decide) (fun _ => ?_) (fun c8 => absurd rfl c8)
    refine lv_goto (tgt := 938) hx hb d_L_law_317 (by decide) ?_
    exact kk _ _ f1 H1 locs1 ls hJ1 w (lv_sub hl [2, 3, 4, 5, 6] rfl)
set_option maxHeartbeats 4000000 in
set_option maxRecDepth 100000 in
theorem k_word (hl9 : l.stackTraces = false) (F : CallFix p m c b_L_law 7 s args gt R_L) (w : gW D cI cF cZ cJ ad ad2 o σ τ f s H locs) (hT : tF (fun q : Nat => s.heap.size ≤ q) s s.heap) (hN : nC s) (hX : va_X b L xs s s.heap) (hbl : b < s.heap.size) (hL : L ≤ 2048) (hi : i + 4 ≤ L) (hJ : J B σ τ) (hB : B + 16 < 2 ^ 30) (hc : cells + 5 ≤ room_1.cells) (hs : slots + 30 ≤ room_1.slots) (hl : lv_has ls 7 [(0, .ref b), (1, .ref (ad 0)), (2, .ref (ad2 0)), (3, .ref o), (4, .int (nI i))])
    (kk : ∀ (σ1 τ1 : Mem) (f1 : Nat → Int64) (H1 : Heap) (locs1 : List Loc) (ls1 : Array Slot), J (B + 16) σ1 τ1 → gW D cI cF cZ cJ ad ad2 o σ1 τ1 f1 s H1 locs1 → lv_has ls1 7 [(0, .ref b), (1, .ref (ad 0)), (2, .ref (ad2 0)), (3, .ref o), (4, .int (nI i))] → W p l e room_1 s m args below meth c H1 locs1 (cells + 5) (slots + 30) Q (F0 m 938 ls1 [])) : W p l e room_1 s m args below meth c H locs cells slots Q (F0 m 320 ls []) := by
  obtain ⟨hx, hb, hml, hown, hts⟩ := id F
  have hA := j_word hJ hB (xs (i + 1)) (xs (i + 2))
  have hok := hJ.ok (show B < 2 ^ 30 by omega)
  have hW := c_L_word (l := l) (D := D) (cI := cI) (cF := cF) (cZ := cZ) (cJ := cJ) (ad := ad) (o := o) hl9 σ (xs (i + 1)) (xs (i + 2))  hA.2.2.2.1 hA.2.2.2.2
  have hR := c_R_word (l := l) (D := D) (cI := cI) (cF := cF) (cZ := cZ) (cJ := cJ) (ad := ad2) τ (xs (i + 1)) (xs (i + 2)) 
  generalize xWord σ (xs (i + 1)) (xs (i + 2)) = x at hA hW
  generalize qWord τ (xs (i + 1)) (xs (i + 2)) = y at hA hR
  obtain ⟨hthr, hans, hJ1, -, hks⟩ := hA
  refine lv_aload_n hx hb d_L_law_320 rfl (lv_at hl 1 rfl) ?_
  refine lv_aload_n hx hb d_L_law_321 rfl (lv_at hl 0 rfl) ?_
  refine lv_iload hx hb d_L_law_322 (lv_at hl 4 rfl) ?_
  refine lv_iconst (v := nI 1) hx hb d_L_law_324 (by decide) ?_
  refine nr_iadd hx hb d_L_law_325 ?_
  refine lr_arg F w hX hbl (show i + 1 < L by omega) hL d_L_law_326 ?_
  refine lv_aload_n hx hb d_L_law_327 rfl (lv_at hl 0 rfl) ?_
  refine lv_iload hx hb d_L_law_328 (lv_at hl 4 rfl) ?_
  refine lv_iconst (v := nI 2) hx hb d_L_law_330 (by decide) ?_
  refine nr_iadd hx hb d_L_law_331 ?_
  refine lr_arg F w hX hbl (show i + 2 < L by omega) hL d_L_law_332 ?_
  refine lv_aload_n hx hb d_L_law_333 rfl (lv_at hl 3 rfl) ?_
  refine lr_wrap (As := [.ref (ad 0), .int (xs (i + 1)), .int (xs (i + 2)), .ref o]) F w hT hN hl.1 hW (vx_cwSW 4 hts (gd_S m_376 m_377 m_0 m_378) rfl rfl rfl (by decide +kernel) ⟨Nat.le_of_ble_eq_true rfl, Nat.le_of_ble_eq_true rfl⟩) rfl rfl (Nat.le_of_ble_eq_true rfl) d_L_law_334 ⟨Nat.le_trans (Nat.add_le_add_left (Nat.le_of_ble_eq_true rfl) _) hc, Nat.le_trans (Nat.add_le_add_left (Nat.le_of_ble_eq_true rfl) _) hs⟩ (fun f1 H1 locs1 hf1 w => ?_)
  refine W.widen (k := cells + 5) (n := slots + 30) (Nat.add_le_add_left (Nat.le_of_ble_eq_true rfl) _) (Nat.add_le_add_left (Nat.le_of_ble_eq_true rfl) _) ?_
  refine lv_istore (lv' := [(5, .int (nI (gId x.1))), (0, .ref b), (1, .ref (ad 0)), (2, .ref (ad2 0)), (3, .ref o), (4, .int (nI i))]) hx hb d_L_law_337 hl (by decide) rfl (fun ls hl => ?_)
  refine lv_aload_n hx hb d_L_law_339 rfl (lv_at hl 3 rfl) ?_
  refine lv_aload_n hx hb d_L_law_340 rfl (lv_at hl 1 rfl) ?_
  refine lv_iload hx hb d_L_law_341 (lv_at hl 5 rfl) ?_
  refine lv_iconst (v := nI 1) hx hb d_L_law_343 (by decide) ?_
  refine nr_iadd hx hb d_L_law_344 ?_
  refine lr_arg F w hX hbl (show i + 1 < L by omega) hL d_L_law_345 ?_
  refine lv_aload_n hx hb d_L_law_346 rfl (lv_at hl 1 rfl) ?_
  refine lv_iload hx hb d_L_law_347 (lv_at hl 5 rfl) ?_
  refine lv_iconst (v := nI 2) hx hb d_L_law_349 (by decide) ?_
  refine nr_iadd hx hb d_L_law_350 ?_
  refine lr_arg F w hX hbl (show i + 2 < L by omega) hL d_L_law_351 ?_
  refine lr_refI (As := [.int (xs (i + 1)), .int (xs (i + 2))]) F w hl.1 hR (cwV 2 hts (gd_gt m_689 (kwV m_686 m_687 m_688 m_6 m_689)) rfl rfl rfl (by decide +kernel) ⟨Nat.le_of_ble_eq_true rfl, Nat.le_of_ble_eq_true rfl⟩) rfl rfl (Nat.le_of_ble_eq_true rfl) d_L_law_352 ⟨hc, hs⟩ (fun r2 τ1 H1 locs1 hp w => ?_)
  obtain ⟨hr2, hs2⟩ := hp
  rw [hs2] at w
  rw [hr2]
  refine lv_istore (lv' := [(6, .int y.1), (5, .int (nI (gId x.1))), (0, .ref b), (1, .ref (ad 0)), (2, .ref (ad2 0)), (3, .ref o), (4, .int (nI i))]) hx hb d_L_law_355 hl (by decide) rfl (fun ls hl => ?_)
  refine lv_aload_n hx hb d_L_law_357 rfl (lv_at hl 4 rfl) ?_
  refine lr_refI (As := []) F w hl.1 (c_R_thrown (l := l) (D := D) (cI := cI) (cF := cF) (cZ := cZ) (cJ := cJ) (ad := ad2) y.2) (cwV 0 hts (gd_gt m_599 (kwV m_596 m_597 m_598 m_6 m_599)) rfl rfl rfl (by decide +kernel) ⟨Nat.le_of_ble_eq_true rfl, Nat.le_of_ble_eq_true rfl⟩) rfl rfl (Nat.le_of_ble_eq_true rfl) d_L_law_358 ⟨hc, hs⟩ (fun r3 τ2 H1 locs1 hp w => ?_)
  obtain ⟨hr3, hs3⟩ := hp
  rw [hs3] at w
  rw [hr3]
  refine lv_iload hx hb d_L_law_361 (lv_at hl 1 rfl) ?_
  refine lv_icmp_eq (tgt := 368) hx hb d_L_law_363 (by decide) (fun _ => ?_) (fun c9 => absurd hthr c9)
  refine lv_iload hx hb d_L_law_368 (lv_at hl 1 rfl) ?_
  refine lv_if_ne (tgt := 385) hx hb d_L_law_370 (by decide) (fun _ => ?_) (fun c9 => ?_)
  · skip
    refine lv_goto (tgt := 938) hx hb d_L_law_385 (by decide) ?_
    exact kk _ _ f1 H1 locs1 ls hJ1 w (lv_sub hl [2, 3, 4, 5, 6] rfl)
  · have h0 : x.1 = 0 := gId_0 hks c9
    have hf0 : f1 0 = y.1.toInt64 := by rw [hf1 rfl h0, hans h0]
    refine lv_aload_n hx hb d_L_law_373 rfl (lv_at hl 5 rfl) ?_
    refine lv_iconst (v := 0) hx hb d_L_law_374 (by decide) ?_
    refine lr_lald F w d_L_law_375 ?_
    rw [hf0]
    refine lv_iload hx hb d_L_law_376 (lv_at hl 0 rfl) ?_
    refine lv_i2l hx hb d_L_law_378 rfl ?_
    refine nr_lcmpEq hx hb d_L_law_379 ?_
    refine lv_if_eq (tgt := 385) hx hb d_L_law_380 (by decide) (fun _ => ?_) (fun c8 => absurd rfl c8)
    refine lv_goto (tgt := 938) hx hb d_L_law_385 (by decide) ?_
    exact kk _ _ f1 H1 locs1 ls hJ1 w (lv_sub hl [2, 3, 4, 5, 6] rfl)
set_option maxHeartbeats 4000000 in
set_option maxRecDepth 100000 in
theorem k_frame (hl9 : l.stackTraces = false) (F : CallFix p m c b_L_law 7 s args gt R_L) (w : gW D cI cF cZ cJ ad ad2 o σ τ f s H locs) (hT : tF (fun q : Nat => s.heap.size ≤ q) s s.heap) (hN : nC s) (hX : va_X b L xs s s.heap) (hbl : b < s.heap.size) (hL : L ≤ 2048) (hi : i + 4 ≤ L) (hJ : J B σ τ) (hB : B + 16 < 2 ^ 30) (hc : cells + 5 ≤ room_1.cells) (hs : slots + 30 ≤ room_1.slots) (hl : lv_has ls 7 [(0, .ref b), (1, .ref (ad 0)), (2, .ref (ad2 0)), (3, .ref o), (4, .int (nI i))])
    (kk : ∀ (σ1 τ1 : Mem) (f1 : Nat → Int64) (H1 : Heap) (locs1 : List Loc) (ls1 : Array Slot), J (B + 16) σ1 τ1 → gW D cI cF cZ cJ ad ad2 o σ1 τ1 f1 s H1 locs1 → lv_has ls1 7 [(0, .ref b), (1, .ref (ad 0)), (2, .ref (ad2 0)), (3, .ref o), (4, .int (nI i))] → W p l e room_1 s m args below meth c H1 locs1 (cells + 5) (slots + 30) Q (F0 m 938 ls1 [])) : W p l e room_1 s m args below meth c H locs cells slots Q (F0 m 388 ls []) := by
  obtain ⟨hx, hb, hml, hown, hts⟩ := id F
  have hA := j_frame hJ hB (xs (i + 1)) (xs (i + 2))
  have hok := hJ.ok (show B < 2 ^ 30 by omega)
  have hW := c_L_frame (l := l) (D := D) (cI := cI) (cF := cF) (cZ := cZ) (cJ := cJ) (ad := ad) (o := o) hl9 σ (xs (i + 1)) (xs (i + 2))  hA.2.2.2.1 hA.2.2.2.2
  have hR := c_R_frame (l := l) (D := D) (cI := cI) (cF := cF) (cZ := cZ) (cJ := cJ) (ad := ad2) τ (xs (i + 1)) (xs (i + 2)) 
  generalize xFrame σ (xs (i + 1)) (xs (i + 2)) = x at hA hW
  generalize qFrame τ (xs (i + 1)) (xs (i + 2)) = y at hA hR
  obtain ⟨hthr, hans, hJ1, -, hks⟩ := hA
  refine lv_aload_n hx hb d_L_law_388 rfl (lv_at hl 1 rfl) ?_
  refine lv_aload_n hx hb d_L_law_389 rfl (lv_at hl 0 rfl) ?_
  refine lv_iload hx hb d_L_law_390 (lv_at hl 4 rfl) ?_
  refine lv_iconst (v := nI 1) hx hb d_L_law_392 (by decide) ?_
  refine nr_iadd hx hb d_L_law_393 ?_
  refine lr_arg F w hX hbl (show i + 1 < L by omega) hL d_L_law_394 ?_
  refine lv_aload_n hx hb d_L_law_395 rfl (lv_at hl 0 rfl) ?_
  refine lv_iload hx hb d_L_law_396 (lv_at hl 4 rfl) ?_
  refine lv_iconst (v := nI 2) hx hb d_L_law_398 (by decide) ?_
  refine nr_iadd hx hb d_L_law_399 ?_
  refine lr_arg F w hX hbl (show i + 2 < L by omega) hL d_L_law_400 ?_
  refine lv_aload_n hx hb d_L_law_401 rfl (lv_at hl 3 rfl) ?_
  refine lr_wrap (As := [.ref (ad 0), .int (xs (i + 1)), .int (xs (i + 2)), .ref o]) F w hT hN hl.1 hW (vx_cwSW 4 hts (gd_S m_384 m_385 m_0 m_386) rfl rfl rfl (by decide +kernel) ⟨Nat.le_of_ble_eq_true rfl, Nat.le_of_ble_eq_true rfl⟩) rfl rfl (Nat.le_of_ble_eq_true rfl) d_L_law_402 ⟨Nat.le_trans (Nat.add_le_add_left (Nat.le_of_ble_eq_true rfl) _) hc, Nat.le_trans (Nat.add_le_add_left (Nat.le_of_ble_eq_true rfl) _) hs⟩ (fun f1 H1 locs1 hf1 w => ?_)
  refine W.widen (k := cells + 5) (n := slots + 30) (Nat.add_le_add_left (Nat.le_of_ble_eq_true rfl) _) (Nat.add_le_add_left (Nat.le_of_ble_eq_true rfl) _) ?_
  refine lv_istore (lv' := [(5, .int (nI (gOne x.1))), (0, .ref b), (1, .ref (ad 0)), (2, .ref (ad2 0)), (3, .ref o), (4, .int (nI i))]) hx hb d_L_law_405 hl (by decide) rfl (fun ls hl => ?_)
  refine lv_aload_n hx hb d_L_law_407 rfl (lv_at hl 3 rfl) ?_
  refine lv_aload_n hx hb d_L_law_408 rfl (lv_at hl 1 rfl) ?_
  refine lv_iload hx hb d_L_law_409 (lv_at hl 5 rfl) ?_
  refine lv_iconst (v := nI 1) hx hb d_L_law_411 (by decide) ?_
  refine nr_iadd hx hb d_L_law_412 ?_
  refine lr_arg F w hX hbl (show i + 1 < L by omega) hL d_L_law_413 ?_
  refine lv_aload_n hx hb d_L_law_414 rfl (lv_at hl 1 rfl) ?_
  refine lv_iload hx hb d_L_law_415 (lv_at hl 5 rfl) ?_
  refine lv_iconst (v := nI 2) hx hb d_L_law_417 (by decide) ?_
  refine nr_iadd hx hb d_L_law_418 ?_
  refine lr_arg F w hX hbl (show i + 2 < L by omega) hL d_L_law_419 ?_
  refine lr_refI (As := [.int (xs (i + 1)), .int (xs (i + 2))]) F w hl.1 hR (cwV 2 hts (gd_gt m_693 (kwV m_690 m_691 m_692 m_6 m_693)) rfl rfl rfl (by decide +kernel) ⟨Nat.le_of_ble_eq_true rfl, Nat.le_of_ble_eq_true rfl⟩) rfl rfl (Nat.le_of_ble_eq_true rfl) d_L_law_420 ⟨hc, hs⟩ (fun r2 τ1 H1 locs1 hp w => ?_)
  obtain ⟨hr2, hs2⟩ := hp
  rw [hs2] at w
  rw [hr2]
  refine lv_istore (lv' := [(6, .int y.1), (5, .int (nI (gOne x.1))), (0, .ref b), (1, .ref (ad 0)), (2, .ref (ad2 0)), (3, .ref o), (4, .int (nI i))]) hx hb d_L_law_423 hl (by decide) rfl (fun ls hl => ?_)
  refine lv_aload_n hx hb d_L_law_425 rfl (lv_at hl 4 rfl) ?_
  refine lr_refI (As := []) F w hl.1 (c_R_thrown (l := l) (D := D) (cI := cI) (cF := cF) (cZ := cZ) (cJ := cJ) (ad := ad2) y.2) (cwV 0 hts (gd_gt m_599 (kwV m_596 m_597 m_598 m_6 m_599)) rfl rfl rfl (by decide +kernel) ⟨Nat.le_of_ble_eq_true rfl, Nat.le_of_ble_eq_true rfl⟩) rfl rfl (Nat.le_of_ble_eq_true rfl) d_L_law_426 ⟨hc, hs⟩ (fun r3 τ2 H1 locs1 hp w => ?_)
  obtain ⟨hr3, hs3⟩ := hp
  rw [hs3] at w
  rw [hr3]
  refine lv_iload hx hb d_L_law_429 (lv_at hl 1 rfl) ?_
  refine lv_icmp_eq (tgt := 436) hx hb d_L_law_431 (by decide) (fun _ => ?_) (fun c9 => absurd hthr c9)
  refine lv_iload hx hb d_L_law_436 (lv_at hl 1 rfl) ?_
  refine lv_if_ne (tgt := 453) hx hb d_L_law_438 (by decide) (fun _ => ?_) (fun c9 => ?_)
  · skip
    refine lv_goto (tgt := 938) hx hb d_L_law_453 (by decide) ?_
    exact kk _ _ f1 H1 locs1 ls hJ1 w (lv_sub hl [2, 3, 4, 5, 6] rfl)
  · have h0 : x.1 = 0 := gOne_0 c9
    have hf0 : f1 0 = y.1.toInt64 := by rw [hf1 rfl h0, hans h0]
    refine lv_aload_n hx hb d_L_law_441 rfl (lv_at hl 5 rfl) ?_
    refine lv_iconst (v := 0) hx hb d_L_law_442 (by decide) ?_
    refine lr_lald F w d_L_law_443 ?_
    rw [hf0]
    refine lv_iload hx hb d_L_law_444 (lv_at hl 0 rfl) ?_
    refine lv_i2l hx hb d_L_law_446 rfl ?_
    refine nr_lcmpEq hx hb d_L_law_447 ?_
    refine lv_if_eq (tgt := 453) hx hb d_L_law_448 (by decide) (fun _ => ?_) (fun c8 => absurd rfl c8)
    refine lv_goto (tgt := 938) hx hb d_L_law_453 (by decide) ?_
    exact kk _ _ f1 H1 locs1 ls hJ1 w (lv_sub hl [2, 3, 4, 5, 6] rfl)
set_option maxHeartbeats 4000000 in
set_option maxRecDepth 100000 in
theorem k_flush (hl9 : l.stackTraces = false) (F : CallFix p m c b_L_law 7 s args gt R_L) (w : gW D cI cF cZ cJ ad ad2 o σ τ f s H locs) (hT : tF (fun q : Nat => s.heap.size ≤ q) s s.heap) (hN : nC s) (hX : va_X b L xs s s.heap) (hbl : b < s.heap.size) (hL : L ≤ 2048) (hi : i + 4 ≤ L) (hJ : J B σ τ) (hB : B + 16 < 2 ^ 30) (hc : cells + 5 ≤ room_1.cells) (hs : slots + 30 ≤ room_1.slots) (hl : lv_has ls 7 [(0, .ref b), (1, .ref (ad 0)), (2, .ref (ad2 0)), (3, .ref o), (4, .int (nI i))])
    (kk : ∀ (σ1 τ1 : Mem) (f1 : Nat → Int64) (H1 : Heap) (locs1 : List Loc) (ls1 : Array Slot), J (B + 16) σ1 τ1 → gW D cI cF cZ cJ ad ad2 o σ1 τ1 f1 s H1 locs1 → lv_has ls1 7 [(0, .ref b), (1, .ref (ad 0)), (2, .ref (ad2 0)), (3, .ref o), (4, .int (nI i))] → W p l e room_1 s m args below meth c H1 locs1 (cells + 5) (slots + 30) Q (F0 m 938 ls1 [])) : W p l e room_1 s m args below meth c H locs cells slots Q (F0 m 456 ls []) := by
  obtain ⟨hx, hb, hml, hown, hts⟩ := id F
  have hA := j_flush hJ hB (xs (i + 1))
  have hok := hJ.ok (show B < 2 ^ 30 by omega)
  have hW := c_L_flush (l := l) (D := D) (cI := cI) (cF := cF) (cZ := cZ) (cJ := cJ) (ad := ad) (o := o) hl9 σ (xs (i + 1)) hok.1 hok.2.1 hA.2.2.2.1 hA.2.2.2.2
  have hR := c_R_flush (l := l) (D := D) (cI := cI) (cF := cF) (cZ := cZ) (cJ := cJ) (ad := ad2) τ (xs (i + 1)) hok.2.2.2
  generalize xFlush σ (xs (i + 1)) = x at hA hW
  generalize qFlush τ (xs (i + 1)) = y at hA hR
  obtain ⟨hthr, hans, hJ1, -, hks⟩ := hA
  refine lv_aload_n hx hb d_L_law_456 rfl (lv_at hl 1 rfl) ?_
  refine lv_aload_n hx hb d_L_law_457 rfl (lv_at hl 0 rfl) ?_
  refine lv_iload hx hb d_L_law_458 (lv_at hl 4 rfl) ?_
  refine lv_iconst (v := nI 1) hx hb d_L_law_460 (by decide) ?_
  refine nr_iadd hx hb d_L_law_461 ?_
  refine lr_arg F w hX hbl (show i + 1 < L by omega) hL d_L_law_462 ?_
  refine lv_aload_n hx hb d_L_law_463 rfl (lv_at hl 3 rfl) ?_
  refine lr_wrap (As := [.ref (ad 0), .int (xs (i + 1)), .ref o]) F w hT hN hl.1 hW (vx_cwSW 3 hts (gd_S m_392 m_393 m_0 m_394) rfl rfl rfl (by decide +kernel) ⟨Nat.le_of_ble_eq_true rfl, Nat.le_of_ble_eq_true rfl⟩) rfl rfl (Nat.le_of_ble_eq_true rfl) d_L_law_464 ⟨Nat.le_trans (Nat.add_le_add_left (Nat.le_of_ble_eq_true rfl) _) hc, Nat.le_trans (Nat.add_le_add_left (Nat.le_of_ble_eq_true rfl) _) hs⟩ (fun f1 H1 locs1 hf1 w => ?_)
  refine W.widen (k := cells + 5) (n := slots + 30) (Nat.add_le_add_left (Nat.le_of_ble_eq_true rfl) _) (Nat.add_le_add_left (Nat.le_of_ble_eq_true rfl) _) ?_
  refine lv_istore (lv' := [(5, .int (nI (gId x.1))), (0, .ref b), (1, .ref (ad 0)), (2, .ref (ad2 0)), (3, .ref o), (4, .int (nI i))]) hx hb d_L_law_467 hl (by decide) rfl (fun ls hl => ?_)
  refine lv_aload_n hx hb d_L_law_469 rfl (lv_at hl 3 rfl) ?_
  refine lv_aload_n hx hb d_L_law_470 rfl (lv_at hl 1 rfl) ?_
  refine lv_iload hx hb d_L_law_471 (lv_at hl 5 rfl) ?_
  refine lv_iconst (v := nI 1) hx hb d_L_law_473 (by decide) ?_
  refine nr_iadd hx hb d_L_law_474 ?_
  refine lr_arg F w hX hbl (show i + 1 < L by omega) hL d_L_law_475 ?_
  refine lr_refI (As := [.int (xs (i + 1))]) F w hl.1 hR (cwV 1 hts (gd_gt m_697 (kwV m_694 m_695 m_696 m_6 m_697)) rfl rfl rfl (by decide +kernel) ⟨Nat.le_of_ble_eq_true rfl, Nat.le_of_ble_eq_true rfl⟩) rfl rfl (Nat.le_of_ble_eq_true rfl) d_L_law_476 ⟨hc, hs⟩ (fun r2 τ1 H1 locs1 hp w => ?_)
  obtain ⟨hr2, hs2⟩ := hp
  rw [hs2] at w
  rw [hr2]
  refine lv_istore (lv' := [(6, .int y.1), (5, .int (nI (gId x.1))), (0, .ref b), (1, .ref (ad 0)), (2, .ref (ad2 0)), (3, .ref o), (4, .int (nI i))]) hx hb d_L_law_479 hl (by decide) rfl (fun ls hl => ?_)
  refine lv_aload_n hx hb d_L_law_481 rfl (lv_at hl 4 rfl) ?_
  refine lr_refI (As := []) F w hl.1 (c_R_thrown (l := l) (D := D) (cI := cI) (cF := cF) (cZ := cZ) (cJ := cJ) (ad := ad2) y.2) (cwV 0 hts (gd_gt m_599 (kwV m_596 m_597 m_598 m_6 m_599)) rfl rfl rfl (by decide +kernel) ⟨Nat.le_of_ble_eq_true rfl, Nat.le_of_ble_eq_true rfl⟩) rfl rfl (Nat.le_of_ble_eq_true rfl) d_L_law_482 ⟨hc, hs⟩ (fun r3 τ2 H1 locs1 hp w => ?_)
  obtain ⟨hr3, hs3⟩ := hp
  rw [hs3] at w
  rw [hr3]
  refine lv_iload hx hb d_L_law_485 (lv_at hl 1 rfl) ?_
  refine lv_icmp_eq (tgt := 492) hx hb d_L_law_487 (by decide) (fun _ => ?_) (fun c9 => absurd hthr c9)
  refine lv_iload hx hb d_L_law_492 (lv_at hl 1 rfl) ?_
  refine lv_if_ne (tgt := 509) hx hb d_L_law_494 (by decide) (fun _ => ?_) (fun c9 => ?_)
  · skip
    refine lv_goto (tgt := 938) hx hb d_L_law_509 (by decide) ?_
    exact kk _ _ f1 H1 locs1 ls hJ1 w (lv_sub hl [2, 3, 4, 5, 6] rfl)
  · have h0 : x.1 = 0 := gId_0 hks c9
    have hf0 : f1 0 = y.1.toInt64 := by rw [hf1 rfl h0, hans h0]
    refine lv_aload_n hx hb d_L_law_497 rfl (lv_at hl 5 rfl) ?_
    refine lv_iconst (v := 0) hx hb d_L_law_498 (by decide) ?_
    refine lr_lald F w d_L_law_499 ?_
    rw [hf0]
    refine lv_iload hx hb d_L_law_500 (lv_at hl 0 rfl) ?_
    refine lv_i2l hx hb d_L_law_502 rfl ?_
    refine nr_lcmpEq hx hb d_L_law_503 ?_
    refine lv_if_eq (tgt := 509) hx hb d_L_law_504 (by decide) (fun _ => ?_) (fun c8 => absurd rfl c8)
    refine lv_goto (tgt := 938) hx hb d_L_law_509 (by decide) ?_
    exact kk _ _ f1 H1 locs1 ls hJ1 w (lv_sub hl [2, 3, 4, 5, 6] rfl)
set_option maxHeartbeats 4000000 in
set_option maxRecDepth 100000 in
theorem k_flushOldest (hl9 : l.stackTraces = false) (F : CallFix p m c b_L_law 7 s args gt R_L) (w : gW D cI cF cZ cJ ad ad2 o σ τ f s H locs) (hT : tF (fun q : Nat => s.heap.size ≤ q) s s.heap) (hN : nC s) (hX : va_X b L xs s s.heap) (hbl : b < s.heap.size) (hL : L ≤ 2048) (hi : i + 4 ≤ L) (hJ : J B σ τ) (hB : B + 16 < 2 ^ 30) (hc : cells + 5 ≤ room_1.cells) (hs : slots + 30 ≤ room_1.slots) (hl : lv_has ls 7 [(0, .ref b), (1, .ref (ad 0)), (2, .ref (ad2 0)), (3, .ref o), (4, .int (nI i))])
    (kk : ∀ (σ1 τ1 : Mem) (f1 : Nat → Int64) (H1 : Heap) (locs1 : List Loc) (ls1 : Array Slot), J (B + 16) σ1 τ1 → gW D cI cF cZ cJ ad ad2 o σ1 τ1 f1 s H1 locs1 → lv_has ls1 7 [(0, .ref b), (1, .ref (ad 0)), (2, .ref (ad2 0)), (3, .ref o), (4, .int (nI i))] → W p l e room_1 s m args below meth c H1 locs1 (cells + 5) (slots + 30) Q (F0 m 938 ls1 [])) : W p l e room_1 s m args below meth c H locs cells slots Q (F0 m 512 ls []) := by
  obtain ⟨hx, hb, hml, hown, hts⟩ := id F
  have hA := j_flushO hJ hB 
  have hok := hJ.ok (show B < 2 ^ 30 by omega)
  have hW := c_L_flushOldest (l := l) (D := D) (cI := cI) (cF := cF) (cZ := cZ) (cJ := cJ) (ad := ad) (o := o) hl9 σ  hok.1 hok.2.1 hA.2.2.2.1 hA.2.2.2.2
  have hR := c_R_flushOldest (l := l) (D := D) (cI := cI) (cF := cF) (cZ := cZ) (cJ := cJ) (ad := ad2) τ  hok.2.2.2
  generalize xFlushO σ  = x at hA hW
  generalize qFlushO τ  = y at hA hR
  obtain ⟨hthr, hans, hJ1, -, hks⟩ := hA
  refine lv_aload_n hx hb d_L_law_512 rfl (lv_at hl 1 rfl) ?_
  refine lv_aload_n hx hb d_L_law_513 rfl (lv_at hl 3 rfl) ?_
  refine lr_wrap (As := [.ref (ad 0), .ref o]) F w hT hN hl.1 hW (vx_cwSW 2 hts (gd_S m_399 m_400 m_0 m_401) rfl rfl rfl (by decide +kernel) ⟨Nat.le_of_ble_eq_true rfl, Nat.le_of_ble_eq_true rfl⟩) rfl rfl (Nat.le_of_ble_eq_true rfl) d_L_law_514 ⟨Nat.le_trans (Nat.add_le_add_left (Nat.le_of_ble_eq_true rfl) _) hc, Nat.le_trans (Nat.add_le_add_left (Nat.le_of_ble_eq_true rfl) _) hs⟩ (fun f1 H1 locs1 hf1 w => ?_)
  refine W.widen (k := cells + 5) (n := slots + 30) (Nat.add_le_add_left (Nat.le_of_ble_eq_true rfl) _) (Nat.add_le_add_left (Nat.le_of_ble_eq_true rfl) _) ?_
  refine lv_istore (lv' := [(5, .int (nI (gOne x.1))), (0, .ref b), (1, .ref (ad 0)), (2, .ref (ad2 0)), (3, .ref o), (4, .int (nI i))]) hx hb d_L_law_517 hl (by decide) rfl (fun ls hl => ?_)
  refine lv_aload_n hx hb d_L_law_519 rfl (lv_at hl 3 rfl) ?_
  refine lr_refI (As := []) F w hl.1 hR (cwV 0 hts (gd_gt m_701 (kwV m_698 m_699 m_700 m_6 m_701)) rfl rfl rfl (by decide +kernel) ⟨Nat.le_of_ble_eq_true rfl, Nat.le_of_ble_eq_true rfl⟩) rfl rfl (Nat.le_of_ble_eq_true rfl) d_L_law_520 ⟨hc, hs⟩ (fun r2 τ1 H1 locs1 hp w => ?_)
  obtain ⟨hr2, hs2⟩ := hp
  rw [hs2] at w
  rw [hr2]
  refine lv_istore (lv' := [(6, .int y.1), (5, .int (nI (gOne x.1))), (0, .ref b), (1, .ref (ad 0)), (2, .ref (ad2 0)), (3, .ref o), (4, .int (nI i))]) hx hb d_L_law_523 hl (by decide) rfl (fun ls hl => ?_)
  refine lv_aload_n hx hb d_L_law_525 rfl (lv_at hl 4 rfl) ?_
  refine lr_refI (As := []) F w hl.1 (c_R_thrown (l := l) (D := D) (cI := cI) (cF := cF) (cZ := cZ) (cJ := cJ) (ad := ad2) y.2) (cwV 0 hts (gd_gt m_599 (kwV m_596 m_597 m_598 m_6 m_599)) rfl rfl rfl (by decide +kernel) ⟨Nat.le_of_ble_eq_true rfl, Nat.le_of_ble_eq_true rfl⟩) rfl rfl (Nat.le_of_ble_eq_true rfl) d_L_law_526 ⟨hc, hs⟩ (fun r3 τ2 H1 locs1 hp w => ?_)
  obtain ⟨hr3, hs3⟩ := hp
  rw [hs3] at w
  rw [hr3]
  refine lv_iload hx hb d_L_law_529 (lv_at hl 1 rfl) ?_
  refine lv_icmp_eq (tgt := 536) hx hb d_L_law_531 (by decide) (fun _ => ?_) (fun c9 => absurd hthr c9)
  refine lv_iload hx hb d_L_law_536 (lv_at hl 1 rfl) ?_
  refine lv_if_ne (tgt := 553) hx hb d_L_law_538 (by decide) (fun _ => ?_) (fun c9 => ?_)
  · skip
    refine lv_goto (tgt := 938) hx hb d_L_law_553 (by decide) ?_
    exact kk _ _ f1 H1 locs1 ls hJ1 w (lv_sub hl [2, 3, 4, 5, 6] rfl)
  · have h0 : x.1 = 0 := gOne_0 c9
    have hf0 : f1 0 = y.1.toInt64 := by rw [hf1 rfl h0, hans h0]
    refine lv_aload_n hx hb d_L_law_541 rfl (lv_at hl 5 rfl) ?_
    refine lv_iconst (v := 0) hx hb d_L_law_542 (by decide) ?_
    refine lr_lald F w d_L_law_543 ?_
    rw [hf0]
    refine lv_iload hx hb d_L_law_544 (lv_at hl 0 rfl) ?_
    refine lv_i2l hx hb d_L_law_546 rfl ?_
    refine nr_lcmpEq hx hb d_L_law_547 ?_
    refine lv_if_eq (tgt := 553) hx hb d_L_law_548 (by decide) (fun _ => ?_) (fun c8 => absurd rfl c8)
    refine lv_goto (tgt := 938) hx hb d_L_law_553 (by decide) ?_
    exact kk _ _ f1 H1 locs1 ls hJ1 w (lv_sub hl [2, 3, 4, 5, 6] rfl)
set_option maxHeartbeats 4000000 in
set_option maxRecDepth 100000 in
theorem k_force (hl9 : l.stackTraces = false) (F : CallFix p m c b_L_law 7 s args gt R_L) (w : gW D cI cF cZ cJ ad ad2 o σ τ f s H locs) (hT : tF (fun q : Nat => s.heap.size ≤ q) s s.heap) (hN : nC s) (hX : va_X b L xs s s.heap) (hbl : b < s.heap.size) (hL : L ≤ 2048) (hi : i + 4 ≤ L) (hJ : J B σ τ) (hB : B + 16 < 2 ^ 30) (hc : cells + 5 ≤ room_1.cells) (hs : slots + 30 ≤ room_1.slots) (hl : lv_has ls 7 [(0, .ref b), (1, .ref (ad 0)), (2, .ref (ad2 0)), (3, .ref o), (4, .int (nI i))])
    (kk : ∀ (σ1 τ1 : Mem) (f1 : Nat → Int64) (H1 : Heap) (locs1 : List Loc) (ls1 : Array Slot), J (B + 16) σ1 τ1 → gW D cI cF cZ cJ ad ad2 o σ1 τ1 f1 s H1 locs1 → lv_has ls1 7 [(0, .ref b), (1, .ref (ad 0)), (2, .ref (ad2 0)), (3, .ref o), (4, .int (nI i))] → W p l e room_1 s m args below meth c H1 locs1 (cells + 5) (slots + 30) Q (F0 m 938 ls1 [])) : W p l e room_1 s m args below meth c H locs cells slots Q (F0 m 556 ls []) := by
  obtain ⟨hx, hb, hml, hown, hts⟩ := id F
  have hA := j_force hJ hB 
  have hok := hJ.ok (show B < 2 ^ 30 by omega)
  have hW := c_L_force (l := l) (D := D) (cI := cI) (cF := cF) (cZ := cZ) (cJ := cJ) (ad := ad) (o := o) hl9 σ   hA.2.2.2.1 hA.2.2.2.2
  have hR := c_R_force (l := l) (D := D) (cI := cI) (cF := cF) (cZ := cZ) (cJ := cJ) (ad := ad2) τ  
  generalize xForce σ  = x at hA hW
  generalize qForceP τ  = y at hA hR
  obtain ⟨hthr, hans, hJ1, -, hks⟩ := hA
  refine lv_aload_n hx hb d_L_law_556 rfl (lv_at hl 1 rfl) ?_
  refine lv_aload_n hx hb d_L_law_557 rfl (lv_at hl 3 rfl) ?_
  refine lr_wrap (As := [.ref (ad 0), .ref o]) F w hT hN hl.1 hW (vx_cwSW 2 hts (gd_S m_407 m_408 m_0 m_409) rfl rfl rfl (by decide +kernel) ⟨Nat.le_of_ble_eq_true rfl, Nat.le_of_ble_eq_true rfl⟩) rfl rfl (Nat.le_of_ble_eq_true rfl) d_L_law_558 ⟨Nat.le_trans (Nat.add_le_add_left (Nat.le_of_ble_eq_true rfl) _) hc, Nat.le_trans (Nat.add_le_add_left (Nat.le_of_ble_eq_true rfl) _) hs⟩ (fun f1 H1 locs1 hf1 w => ?_)
  refine W.widen (k := cells + 5) (n := slots + 30) (Nat.add_le_add_left (Nat.le_of_ble_eq_true rfl) _) (Nat.add_le_add_left (Nat.le_of_ble_eq_true rfl) _) ?_
  refine lv_istore (lv' := [(5, .int (nI (gOne x.1))), (0, .ref b), (1, .ref (ad 0)), (2, .ref (ad2 0)), (3, .ref o), (4, .int (nI i))]) hx hb d_L_law_561 hl (by decide) rfl (fun ls hl => ?_)
  refine lv_aload_n hx hb d_L_law_563 rfl (lv_at hl 3 rfl) ?_
  refine lr_refI (As := []) F w hl.1 hR (cwV 0 hts (gd_gt m_623 (kwV m_620 m_621 m_622 m_6 m_623)) rfl rfl rfl (by decide +kernel) ⟨Nat.le_of_ble_eq_true rfl, Nat.le_of_ble_eq_true rfl⟩) rfl rfl (Nat.le_of_ble_eq_true rfl) d_L_law_564 ⟨hc, hs⟩ (fun r2 τ1 H1 locs1 hp w => ?_)
  obtain ⟨hr2, hs2⟩ := hp
  rw [hs2] at w
  rw [hr2]
  refine lv_istore (lv' := [(6, .int y.1), (5, .int (nI (gOne x.1))), (0, .ref b), (1, .ref (ad 0)), (2, .ref (ad2 0)), (3, .ref o), (4, .int (nI i))]) hx hb d_L_law_567 hl (by decide) rfl (fun ls hl => ?_)
  refine lv_aload_n hx hb d_L_law_569 rfl (lv_at hl 4 rfl) ?_
  refine lr_refI (As := []) F w hl.1 (c_R_thrown (l := l) (D := D) (cI := cI) (cF := cF) (cZ := cZ) (cJ := cJ) (ad := ad2) y.2) (cwV 0 hts (gd_gt m_599 (kwV m_596 m_597 m_598 m_6 m_599)) rfl rfl rfl (by decide +kernel) ⟨Nat.le_of_ble_eq_true rfl, Nat.le_of_ble_eq_true rfl⟩) rfl rfl (Nat.le_of_ble_eq_true rfl) d_L_law_570 ⟨hc, hs⟩ (fun r3 τ2 H1 locs1 hp w => ?_)
  obtain ⟨hr3, hs3⟩ := hp
  rw [hs3] at w
  rw [hr3]
  refine lv_iload hx hb d_L_law_573 (lv_at hl 1 rfl) ?_
  refine lv_icmp_eq (tgt := 580) hx hb d_L_law_575 (by decide) (fun _ => ?_) (fun c9 => absurd hthr c9)
  refine lv_iload hx hb d_L_law_580 (lv_at hl 1 rfl) ?_
  refine lv_if_ne (tgt := 597) hx hb d_L_law_582 (by decide) (fun _ => ?_) (fun c9 => ?_)
  · skip
    refine lv_goto (tgt := 938) hx hb d_L_law_597 (by decide) ?_
    exact kk _ _ f1 H1 locs1 ls hJ1 w (lv_sub hl [2, 3, 4, 5, 6] rfl)
  · have h0 : x.1 = 0 := gOne_0 c9
    have hf0 : f1 0 = y.1.toInt64 := by rw [hf1 rfl h0, hans h0]
    refine lv_aload_n hx hb d_L_law_585 rfl (lv_at hl 5 rfl) ?_
    refine lv_iconst (v := 0) hx hb d_L_law_586 (by decide) ?_
    refine lr_lald F w d_L_law_587 ?_
    rw [hf0]
    refine lv_iload hx hb d_L_law_588 (lv_at hl 0 rfl) ?_
    refine lv_i2l hx hb d_L_law_590 rfl ?_
    refine nr_lcmpEq hx hb d_L_law_591 ?_
    refine lv_if_eq (tgt := 597) hx hb d_L_law_592 (by decide) (fun _ => ?_) (fun c8 => absurd rfl c8)
    refine lv_goto (tgt := 938) hx hb d_L_law_597 (by decide) ?_
    exact kk _ _ f1 H1 locs1 ls hJ1 w (lv_sub hl [2, 3, 4, 5, 6] rfl)
set_option maxHeartbeats 4000000 in
set_option maxRecDepth 100000 in
theorem k_trim (hl9 : l.stackTraces = false) (F : CallFix p m c b_L_law 7 s args gt R_L) (w : gW D cI cF cZ cJ ad ad2 o σ τ f s H locs) (hT : tF (fun q : Nat => s.heap.size ≤ q) s s.heap) (hN : nC s) (hX : va_X b L xs s s.heap) (hbl : b < s.heap.size) (hL : L ≤ 2048) (hi : i + 4 ≤ L) (hJ : J B σ τ) (hB : B + 16 < 2 ^ 30) (hc : cells + 5 ≤ room_1.cells) (hs : slots + 30 ≤ room_1.slots) (hl : lv_has ls 7 [(0, .ref b), (1, .ref (ad 0)), (2, .ref (ad2 0)), (3, .ref o), (4, .int (nI i))])
    (kk : ∀ (σ1 τ1 : Mem) (f1 : Nat → Int64) (H1 : Heap) (locs1 : List Loc) (ls1 : Array Slot), J (B + 16) σ1 τ1 → gW D cI cF cZ cJ ad ad2 o σ1 τ1 f1 s H1 locs1 → lv_has ls1 7 [(0, .ref b), (1, .ref (ad 0)), (2, .ref (ad2 0)), (3, .ref o), (4, .int (nI i))] → W p l e room_1 s m args below meth c H1 locs1 (cells + 5) (slots + 30) Q (F0 m 938 ls1 [])) : W p l e room_1 s m args below meth c H locs cells slots Q (F0 m 600 ls []) := by
  obtain ⟨hx, hb, hml, hown, hts⟩ := id F
  obtain ⟨a9, b9, e1, e2, e3, e4, e5, hA⟩ := j_trim hJ hB
  have hW := c_L_trim (l := l) (D := D) (cI := cI) (cF := cF) (cZ := cZ) (cJ := cJ) (ad := ad) (o := o) hl9 σ e5 hA.2.2.2.1 hA.2.2.2.2
  have hR := c_R_trim (l := l) (D := D) (cI := cI) (cF := cF) (cZ := cZ) (cJ := cJ) (ad := ad2) τ a9 b9 e1 e2 e3 e4
  generalize xTrim σ = x at hA hW
  generalize qTrim τ a9 b9 = y at hA hR
  obtain ⟨hthr, hans, hJ1, -, hks⟩ := hA
  refine lv_aload_n hx hb d_L_law_600 rfl (lv_at hl 1 rfl) ?_
  refine lv_aload_n hx hb d_L_law_601 rfl (lv_at hl 3 rfl) ?_
  refine lr_wrap (As := [.ref (ad 0), .ref o]) F w hT hN hl.1 hW (vx_cwSW 2 hts (gd_S m_414 m_415 m_0 m_416) rfl rfl rfl (by decide +kernel) ⟨Nat.le_of_ble_eq_true rfl, Nat.le_of_ble_eq_true rfl⟩) rfl rfl (Nat.le_of_ble_eq_true rfl) d_L_law_602 ⟨Nat.le_trans (Nat.add_le_add_left (Nat.le_of_ble_eq_true rfl) _) hc, Nat.le_trans (Nat.add_le_add_left (Nat.le_of_ble_eq_true rfl) _) hs⟩ (fun f1 H1 locs1 hf1 w => ?_)
  refine W.widen (k := cells + 5) (n := slots + 30) (Nat.add_le_add_left (Nat.le_of_ble_eq_true rfl) _) (Nat.add_le_add_left (Nat.le_of_ble_eq_true rfl) _) ?_
  refine lv_istore (lv' := [(5, .int (nI (gOne x.1))), (0, .ref b), (1, .ref (ad 0)), (2, .ref (ad2 0)), (3, .ref o), (4, .int (nI i))]) hx hb d_L_law_605 hl (by decide) rfl (fun ls hl => ?_)
  refine lv_aload_n hx hb d_L_law_607 rfl (lv_at hl 3 rfl) ?_
  refine lr_refI (As := []) F w hl.1 hR (cwV 0 hts (gd_gt m_709 (kwV m_706 m_707 m_708 m_6 m_709)) rfl rfl rfl (by decide +kernel) ⟨Nat.le_of_ble_eq_true rfl, Nat.le_of_ble_eq_true rfl⟩) rfl rfl (Nat.le_of_ble_eq_true rfl) d_L_law_608 ⟨hc, hs⟩ (fun r2 τ1 H1 locs1 hp w => ?_)
  obtain ⟨hr2, hs2⟩ := hp
  rw [hs2] at w
  rw [hr2]
  refine lv_istore (lv' := [(6, .int y.1), (5, .int (nI (gOne x.1))), (0, .ref b), (1, .ref (ad 0)), (2, .ref (ad2 0)), (3, .ref o), (4, .int (nI i))]) hx hb d_L_law_611 hl (by decide) rfl (fun ls hl => ?_)
  refine lv_aload_n hx hb d_L_law_613 rfl (lv_at hl 4 rfl) ?_
  refine lr_refI (As := []) F w hl.1 (c_R_thrown (l := l) (D := D) (cI := cI) (cF := cF) (cZ := cZ) (cJ := cJ) (ad := ad2) y.2) (cwV 0 hts (gd_gt m_599 (kwV m_596 m_597 m_598 m_6 m_599)) rfl rfl rfl (by decide +kernel) ⟨Nat.le_of_ble_eq_true rfl, Nat.le_of_ble_eq_true rfl⟩) rfl rfl (Nat.le_of_ble_eq_true rfl) d_L_law_614 ⟨hc, hs⟩ (fun r3 τ2 H1 locs1 hp w => ?_)
  obtain ⟨hr3, hs3⟩ := hp
  rw [hs3] at w
  rw [hr3]
  refine lv_iload hx hb d_L_law_617 (lv_at hl 1 rfl) ?_
  refine lv_icmp_eq (tgt := 624) hx hb d_L_law_619 (by decide) (fun _ => ?_) (fun c9 => absurd hthr c9)
  refine lv_iload hx hb d_L_law_624 (lv_at hl 1 rfl) ?_
  refine lv_if_ne (tgt := 641) hx hb d_L_law_626 (by decide) (fun _ => ?_) (fun c9 => ?_)
  · skip
    refine lv_goto (tgt := 938) hx hb d_L_law_641 (by decide) ?_
    exact kk _ _ f1 H1 locs1 ls hJ1 w (lv_sub hl [2, 3, 4, 5, 6] rfl)
  · have h0 : x.1 = 0 := gOne_0 c9
    have hf0 : f1 0 = y.1.toInt64 := by rw [hf1 rfl h0, hans h0]
    refine lv_aload_n hx hb d_L_law_629 rfl (lv_at hl 5 rfl) ?_
    refine lv_iconst (v := 0) hx hb d_L_law_630 (by decide) ?_
    refine lr_lald F w d_L_law_631 ?_
    rw [hf0]
    refine lv_iload hx hb d_L_law_632 (lv_at hl 0 rfl) ?_
    refine lv_i2l hx hb d_L_law_634 rfl ?_
    refine nr_lcmpEq hx hb d_L_law_635 ?_
    refine lv_if_eq (tgt := 641) hx hb d_L_law_636 (by decide) (fun _ => ?_) (fun c8 => absurd rfl c8)
    refine lv_goto (tgt := 938) hx hb d_L_law_641 (by decide) ?_
    exact kk _ _ f1 H1 locs1 ls hJ1 w (lv_sub hl [2, 3, 4, 5, 6] rfl)
set_option maxHeartbeats 4000000 in
set_option maxRecDepth 100000 in
theorem k_changed (hl9 : l.stackTraces = false) (F : CallFix p m c b_L_law 7 s args gt R_L) (w : gW D cI cF cZ cJ ad ad2 o σ τ f s H locs) (hT : tF (fun q : Nat => s.heap.size ≤ q) s s.heap) (hN : nC s) (hX : va_X b L xs s s.heap) (hbl : b < s.heap.size) (hL : L ≤ 2048) (hi : i + 4 ≤ L) (hJ : J B σ τ) (hB : B + 16 < 2 ^ 30) (hc : cells + 5 ≤ room_1.cells) (hs : slots + 30 ≤ room_1.slots) (hl : lv_has ls 7 [(0, .ref b), (1, .ref (ad 0)), (2, .ref (ad2 0)), (3, .ref o), (4, .int (nI i))])
    (kk : ∀ (σ1 τ1 : Mem) (f1 : Nat → Int64) (H1 : Heap) (locs1 : List Loc) (ls1 : Array Slot), J (B + 16) σ1 τ1 → gW D cI cF cZ cJ ad ad2 o σ1 τ1 f1 s H1 locs1 → lv_has ls1 7 [(0, .ref b), (1, .ref (ad 0)), (2, .ref (ad2 0)), (3, .ref o), (4, .int (nI i))] → W p l e room_1 s m args below meth c H1 locs1 (cells + 5) (slots + 30) Q (F0 m 938 ls1 [])) : W p l e room_1 s m args below meth c H locs cells slots Q (F0 m 644 ls []) := by
  obtain ⟨hx, hb, hml, hown, hts⟩ := id F
  have hA := j_changed hJ hB
  refine W.widen (k := cells + 5) (n := slots + 30) (Nat.le_add_right _ _) (Nat.le_add_right _ _) ?_
  refine lv_aload_n hx hb d_L_law_644 rfl (lv_at hl 1 rfl) ?_
  refine lr_clsI (As := []) F w hl.1 (c_P_changed (l := l) (D := D) (cI := cI) (cF := cF) (cZ := cZ) (cJ := cJ) (ad := ad) σ) (cwV 0 hts (gd_gt m_142 (kwV m_139 m_140 m_141 m_1 m_142)) rfl rfl rfl (by decide +kernel) ⟨Nat.le_of_ble_eq_true rfl, Nat.le_of_ble_eq_true rfl⟩) rfl rfl (Nat.le_of_ble_eq_true rfl) d_L_law_645 ⟨hc, hs⟩ (fun r1 σ1 H1 locs1 hp w => ?_)
  obtain ⟨hr1, hs1⟩ := hp
  rw [hs1] at w
  rw [hr1]
  refine lv_aload_n hx hb d_L_law_648 rfl (lv_at hl 2 rfl) ?_
  refine lr_refI (As := []) F w hl.1 (c_R_changed (l := l) (D := D) (cI := cI) (cF := cF) (cZ := cZ) (cJ := cJ) (ad := ad2) τ) (cwV 0 hts (gd_gt m_713 (kwV m_710 m_711 m_712 m_6 m_713)) rfl rfl rfl (by decide +kernel) ⟨Nat.le_of_ble_eq_true rfl, Nat.le_of_ble_eq_true rfl⟩) rfl rfl (Nat.le_of_ble_eq_true rfl) d_L_law_649 ⟨hc, hs⟩ (fun r2 τ1 H1 locs1 hp w => ?_)
  obtain ⟨hr2, hs2⟩ := hp
  rw [hs2] at w
  rw [hr2]
  exact lv_icmp_eq (tgt := 938) hx hb d_L_law_652 (by decide) (fun _ => kk _ _ f H1 locs1 ls hA.2 w hl) (fun c9 => absurd hA.1 c9)
set_option maxHeartbeats 4000000 in
set_option maxRecDepth 100000 in
theorem k_oldest (hl9 : l.stackTraces = false) (F : CallFix p m c b_L_law 7 s args gt R_L) (w : gW D cI cF cZ cJ ad ad2 o σ τ f s H locs) (hT : tF (fun q : Nat => s.heap.size ≤ q) s s.heap) (hN : nC s) (hX : va_X b L xs s s.heap) (hbl : b < s.heap.size) (hL : L ≤ 2048) (hi : i + 4 ≤ L) (hJ : J B σ τ) (hB : B + 16 < 2 ^ 30) (hc : cells + 5 ≤ room_1.cells) (hs : slots + 30 ≤ room_1.slots) (hl : lv_has ls 7 [(0, .ref b), (1, .ref (ad 0)), (2, .ref (ad2 0)), (3, .ref o), (4, .int (nI i))])
    (kk : ∀ (σ1 τ1 : Mem) (f1 : Nat → Int64) (H1 : Heap) (locs1 : List Loc) (ls1 : Array Slot), J (B + 16) σ1 τ1 → gW D cI cF cZ cJ ad ad2 o σ1 τ1 f1 s H1 locs1 → lv_has ls1 7 [(0, .ref b), (1, .ref (ad 0)), (2, .ref (ad2 0)), (3, .ref o), (4, .int (nI i))] → W p l e room_1 s m args below meth c H1 locs1 (cells + 5) (slots + 30) Q (F0 m 938 ls1 [])) : W p l e room_1 s m args below meth c H locs cells slots Q (F0 m 657 ls []) := by
  obtain ⟨hx, hb, hml, hown, hts⟩ := id F
  have hA := j_oldest hJ hB (xs (i + 1))
  refine W.widen (k := cells + 5) (n := slots + 30) (Nat.le_add_right _ _) (Nat.le_add_right _ _) ?_
  refine lv_aload_n hx hb d_L_law_657 rfl (lv_at hl 1 rfl) ?_
  refine lv_aload_n hx hb d_L_law_658 rfl (lv_at hl 0 rfl) ?_
  refine lv_iload hx hb d_L_law_659 (lv_at hl 4 rfl) ?_
  refine lv_iconst (v := nI 1) hx hb d_L_law_661 (by decide) ?_
  refine nr_iadd hx hb d_L_law_662 ?_
  refine lr_arg F w hX hbl (show i + 1 < L by omega) hL d_L_law_663 ?_
  refine lr_clsI (As := [.int (xs (i + 1))]) F w hl.1 (c_P_oldest (l := l) (D := D) (cI := cI) (cF := cF) (cZ := cZ) (cJ := cJ) (ad := ad) σ (xs (i + 1))) (cwV 1 hts (gd_gt m_150 (kwV m_147 m_148 m_149 m_1 m_150)) rfl rfl rfl (by decide +kernel) ⟨Nat.le_of_ble_eq_true rfl, Nat.le_of_ble_eq_true rfl⟩) rfl rfl (Nat.le_of_ble_eq_true rfl) d_L_law_664 ⟨hc, hs⟩ (fun r1 σ1 H1 locs1 hp w => ?_)
  obtain ⟨hr1, hs1⟩ := hp
  rw [hs1] at w
  rw [hr1]
  refine lv_aload_n hx hb d_L_law_667 rfl (lv_at hl 2 rfl) ?_
  refine lv_aload_n hx hb d_L_law_668 rfl (lv_at hl 0 rfl) ?_
  refine lv_iload hx hb d_L_law_669 (lv_at hl 4 rfl) ?_
  refine lv_iconst (v := nI 1) hx hb d_L_law_671 (by decide) ?_
  refine nr_iadd hx hb d_L_law_672 ?_
  refine lr_arg F w hX hbl (show i + 1 < L by omega) hL d_L_law_673 ?_
  refine lr_refI (As := [.int (xs (i + 1))]) F w hl.1 (c_R_oldest (l := l) (D := D) (cI := cI) (cF := cF) (cZ := cZ) (cJ := cJ) (ad := ad2) τ (xs (i + 1))) (cwV 1 hts (gd_gt m_717 (kwV m_714 m_715 m_716 m_6 m_717)) rfl rfl rfl (by decide +kernel) ⟨Nat.le_of_ble_eq_true rfl, Nat.le_of_ble_eq_true rfl⟩) rfl rfl (Nat.le_of_ble_eq_true rfl) d_L_law_674 ⟨hc, hs⟩ (fun r2 τ1 H1 locs1 hp w => ?_)
  obtain ⟨hr2, hs2⟩ := hp
  rw [hs2] at w
  rw [hr2]
  exact lv_icmp_eq (tgt := 938) hx hb d_L_law_677 (by decide) (fun _ => kk _ _ f H1 locs1 ls hA.2 w hl) (fun c9 => absurd hA.1 c9)
set_option maxHeartbeats 4000000 in
set_option maxRecDepth 100000 in
theorem k_log (hl9 : l.stackTraces = false) (F : CallFix p m c b_L_law 7 s args gt R_L) (w : gW D cI cF cZ cJ ad ad2 o σ τ f s H locs) (hT : tF (fun q : Nat => s.heap.size ≤ q) s s.heap) (hN : nC s) (hX : va_X b L xs s s.heap) (hbl : b < s.heap.size) (hL : L ≤ 2048) (hi : i + 4 ≤ L) (hJ : J B σ τ) (hB : B + 16 < 2 ^ 30) (hc : cells + 5 ≤ room_1.cells) (hs : slots + 30 ≤ room_1.slots) (hl : lv_has ls 7 [(0, .ref b), (1, .ref (ad 0)), (2, .ref (ad2 0)), (3, .ref o), (4, .int (nI i))])
    (kk : ∀ (σ1 τ1 : Mem) (f1 : Nat → Int64) (H1 : Heap) (locs1 : List Loc) (ls1 : Array Slot), J (B + 16) σ1 τ1 → gW D cI cF cZ cJ ad ad2 o σ1 τ1 f1 s H1 locs1 → lv_has ls1 7 [(0, .ref b), (1, .ref (ad 0)), (2, .ref (ad2 0)), (3, .ref o), (4, .int (nI i))] → W p l e room_1 s m args below meth c H1 locs1 (cells + 5) (slots + 30) Q (F0 m 938 ls1 [])) : W p l e room_1 s m args below meth c H locs cells slots Q (F0 m 682 ls []) := by
  obtain ⟨hx, hb, hml, hown, hts⟩ := id F
  have hA := j_log hJ (xs (i + 1))
  have hok := hJ.ok (show B < 2 ^ 30 by omega)
  have hW := c_L_log (l := l) (D := D) (cI := cI) (cF := cF) (cZ := cZ) (cJ := cJ) (ad := ad) (o := o) hl9 σ (xs (i + 1))  hA.2.2.2.1 hA.2.2.2.2
  have hR := c_R_log (l := l) (D := D) (cI := cI) (cF := cF) (cZ := cZ) (cJ := cJ) (ad := ad2) τ (xs (i + 1)) 
  generalize xLog σ (xs (i + 1)) = x at hA hW
  generalize qLog τ (xs (i + 1)) = y at hA hR
  obtain ⟨hthr, hans, hJ1, -, hks⟩ := hA
  refine lv_aload_n hx hb d_L_law_682 rfl (lv_at hl 1 rfl) ?_
  refine lv_aload_n hx hb d_L_law_683 rfl (lv_at hl 0 rfl) ?_
  refine lv_iload hx hb d_L_law_684 (lv_at hl 4 rfl) ?_
  refine lv_iconst (v := nI 1) hx hb d_L_law_686 (by decide) ?_
  refine nr_iadd hx hb d_L_law_687 ?_
  refine lr_arg F w hX hbl (show i + 1 < L by omega) hL d_L_law_688 ?_
  refine lv_aload_n hx hb d_L_law_689 rfl (lv_at hl 3 rfl) ?_
  refine lr_wrap (As := [.ref (ad 0), .int (xs (i + 1)), .ref o]) F w hT hN hl.1 hW (vx_cwSW 3 hts (gd_S m_443 m_444 m_0 m_445) rfl rfl rfl (by decide +kernel) ⟨Nat.le_of_ble_eq_true rfl, Nat.le_of_ble_eq_true rfl⟩) rfl rfl (Nat.le_of_ble_eq_true rfl) d_L_law_690 ⟨Nat.le_trans (Nat.add_le_add_left (Nat.le_of_ble_eq_true rfl) _) hc, Nat.le_trans (Nat.add_le_add_left (Nat.le_of_ble_eq_true rfl) _) hs⟩ (fun f1 H1 locs1 hf1 w => ?_)
  refine W.widen (k := cells + 5) (n := slots + 30) (Nat.add_le_add_left (Nat.le_of_ble_eq_true rfl) _) (Nat.add_le_add_left (Nat.le_of_ble_eq_true rfl) _) ?_
  refine lv_istore (lv' := [(5, .int (nI (gOne x.1))), (0, .ref b), (1, .ref (ad 0)), (2, .ref (ad2 0)), (3, .ref o), (4, .int (nI i))]) hx hb d_L_law_693 hl (by decide) rfl (fun ls hl => ?_)
  refine lv_aload_n hx hb d_L_law_695 rfl (lv_at hl 3 rfl) ?_
  refine lv_aload_n hx hb d_L_law_696 rfl (lv_at hl 1 rfl) ?_
  refine lv_iload hx hb d_L_law_697 (lv_at hl 5 rfl) ?_
  refine lv_iconst (v := nI 1) hx hb d_L_law_699 (by decide) ?_
  refine nr_iadd hx hb d_L_law_700 ?_
  refine lr_arg F w hX hbl (show i + 1 < L by omega) hL d_L_law_701 ?_
  refine lr_refI (As := [.int (xs (i + 1))]) F w hl.1 hR (cwV 1 hts (gd_gt m_729 (kwV m_726 m_727 m_728 m_6 m_729)) rfl rfl rfl (by decide +kernel) ⟨Nat.le_of_ble_eq_true rfl, Nat.le_of_ble_eq_true rfl⟩) rfl rfl (Nat.le_of_ble_eq_true rfl) d_L_law_702 ⟨hc, hs⟩ (fun r2 τ1 H1 locs1 hp w => ?_)
  obtain ⟨hr2, hs2⟩ := hp
  rw [hs2] at w
  rw [hr2]
  refine lv_istore (lv' := [(6, .int y.1), (5, .int (nI (gOne x.1))), (0, .ref b), (1, .ref (ad 0)), (2, .ref (ad2 0)), (3, .ref o), (4, .int (nI i))]) hx hb d_L_law_705 hl (by decide) rfl (fun ls hl => ?_)
  refine lv_aload_n hx hb d_L_law_707 rfl (lv_at hl 4 rfl) ?_
  refine lr_refI (As := []) F w hl.1 (c_R_thrown (l := l) (D := D) (cI := cI) (cF := cF) (cZ := cZ) (cJ := cJ) (ad := ad2) y.2) (cwV 0 hts (gd_gt m_599 (kwV m_596 m_597 m_598 m_6 m_599)) rfl rfl rfl (by decide +kernel) ⟨Nat.le_of_ble_eq_true rfl, Nat.le_of_ble_eq_true rfl⟩) rfl rfl (Nat.le_of_ble_eq_true rfl) d_L_law_708 ⟨hc, hs⟩ (fun r3 τ2 H1 locs1 hp w => ?_)
  obtain ⟨hr3, hs3⟩ := hp
  rw [hs3] at w
  rw [hr3]
  refine lv_iload hx hb d_L_law_711 (lv_at hl 1 rfl) ?_
  refine lv_icmp_eq (tgt := 718) hx hb d_L_law_713 (by decide) (fun _ => ?_) (fun c9 => absurd hthr c9)
  refine lv_iload hx hb d_L_law_718 (lv_at hl 1 rfl) ?_
  refine lv_if_ne (tgt := 735) hx hb d_L_law_720 (by decide) (fun _ => ?_) (fun c9 => ?_)
  · skip
    refine lv_goto (tgt := 938) hx hb d_L_law_735 (by decide) ?_
    exact kk _ _ f1 H1 locs1 ls hJ1 w (lv_sub hl [2, 3, 4, 5, 6] rfl)
  · have h0 : x.1 = 0 := gOne_0 c9
    have hf0 : f1 0 = y.1.toInt64 := by rw [hf1 rfl h0, hans h0]
    refine lv_aload_n hx hb d_L_law_723 rfl (lv_at hl 5 rfl) ?_
    refine lv_iconst (v := 0) hx hb d_L_law_724 (by decide) ?_
    refine lr_lald F w d_L_law_725 ?_
    rw [hf0]
    refine lv_iload hx hb d_L_law_726 (lv_at hl 0 rfl) ?_
    refine lv_i2l hx hb d_L_law_728 rfl ?_
    refine nr_lcmpEq hx hb d_L_law_729 ?_
    refine lv_if_eq (tgt := 735) hx hb d_L_law_730 (by decide) (fun _ => ?_) (fun c8 => absurd rfl c8)
    refine lv_goto (tgt := 938) hx hb d_L_law_735 (by decide) ?_
    exact kk _ _ f1 H1 locs1 ls hJ1 w (lv_sub hl [2, 3, 4, 5, 6] rfl)
set_option maxHeartbeats 4000000 in
set_option maxRecDepth 100000 in
theorem k_onMedium (hl9 : l.stackTraces = false) (F : CallFix p m c b_L_law 7 s args gt R_L) (w : gW D cI cF cZ cJ ad ad2 o σ τ f s H locs) (hT : tF (fun q : Nat => s.heap.size ≤ q) s s.heap) (hN : nC s) (hX : va_X b L xs s s.heap) (hbl : b < s.heap.size) (hL : L ≤ 2048) (hi : i + 4 ≤ L) (hJ : J B σ τ) (hB : B + 16 < 2 ^ 30) (hc : cells + 5 ≤ room_1.cells) (hs : slots + 30 ≤ room_1.slots) (hl : lv_has ls 7 [(0, .ref b), (1, .ref (ad 0)), (2, .ref (ad2 0)), (3, .ref o), (4, .int (nI i))])
    (kk : ∀ (σ1 τ1 : Mem) (f1 : Nat → Int64) (H1 : Heap) (locs1 : List Loc) (ls1 : Array Slot), J (B + 16) σ1 τ1 → gW D cI cF cZ cJ ad ad2 o σ1 τ1 f1 s H1 locs1 → lv_has ls1 7 [(0, .ref b), (1, .ref (ad 0)), (2, .ref (ad2 0)), (3, .ref o), (4, .int (nI i))] → W p l e room_1 s m args below meth c H1 locs1 (cells + 5) (slots + 30) Q (F0 m 938 ls1 [])) : W p l e room_1 s m args below meth c H locs cells slots Q (F0 m 738 ls []) := by
  obtain ⟨hx, hb, hml, hown, hts⟩ := id F
  have hA := j_onM hJ (xs (i + 1)) (xs (i + 2))
  have hok := hJ.ok (show B < 2 ^ 30 by omega)
  have hW := c_L_onMedium (l := l) (D := D) (cI := cI) (cF := cF) (cZ := cZ) (cJ := cJ) (ad := ad) (o := o) hl9 σ (xs (i + 1)) (xs (i + 2))  hA.2.2.2.1 hA.2.2.2.2
  have hR := c_R_onMedium (l := l) (D := D) (cI := cI) (cF := cF) (cZ := cZ) (cJ := cJ) (ad := ad2) τ (xs (i + 1)) (xs (i + 2)) 
  generalize xOnM σ (xs (i + 1)) (xs (i + 2)) = x at hA hW
  generalize qOnM τ (xs (i + 1)) (xs (i + 2)) = y at hA hR
  obtain ⟨hthr, hans, hJ1, -, hks⟩ := hA
  refine lv_aload_n hx hb d_L_law_738 rfl (lv_at hl 1 rfl) ?_
  refine lv_aload_n hx hb d_L_law_739 rfl (lv_at hl 0 rfl) ?_
  refine lv_iload hx hb d_L_law_740 (lv_at hl 4 rfl) ?_
  refine lv_iconst (v := nI 1) hx hb d_L_law_742 (by decide) ?_
  refine nr_iadd hx hb d_L_law_743 ?_
  refine lr_arg F w hX hbl (show i + 1 < L by omega) hL d_L_law_744 ?_
  refine lv_aload_n hx hb d_L_law_745 rfl (lv_at hl 0 rfl) ?_
  refine lv_iload hx hb d_L_law_746 (lv_at hl 4 rfl) ?_
  refine lv_iconst (v := nI 2) hx hb d_L_law_748 (by decide) ?_
  refine nr_iadd hx hb d_L_law_749 ?_
  refine lr_arg F w hX hbl (show i + 2 < L by omega) hL d_L_law_750 ?_
  refine lv_aload_n hx hb d_L_law_751 rfl (lv_at hl 3 rfl) ?_
  refine lr_wrap (As := [.ref (ad 0), .int (xs (i + 1)), .int (xs (i + 2)), .ref o]) F w hT hN hl.1 hW (vx_cwSW 4 hts (gd_S m_451 m_452 m_0 m_453) rfl rfl rfl (by decide +kernel) ⟨Nat.le_of_ble_eq_true rfl, Nat.le_of_ble_eq_true rfl⟩) rfl rfl (Nat.le_of_ble_eq_true rfl) d_L_law_752 ⟨Nat.le_trans (Nat.add_le_add_left (Nat.le_of_ble_eq_true rfl) _) hc, Nat.le_trans (Nat.add_le_add_left (Nat.le_of_ble_eq_true rfl) _) hs⟩ (fun f1 H1 locs1 hf1 w => ?_)
  refine W.widen (k := cells + 5) (n := slots + 30) (Nat.add_le_add_left (Nat.le_of_ble_eq_true rfl) _) (Nat.add_le_add_left (Nat.le_of_ble_eq_true rfl) _) ?_
  refine lv_istore (lv' := [(5, .int (nI (gOne x.1))), (0, .ref b), (1, .ref (ad 0)), (2, .ref (ad2 0)), (3, .ref o), (4, .int (nI i))]) hx hb d_L_law_755 hl (by decide) rfl (fun ls hl => ?_)
  refine lv_aload_n hx hb d_L_law_757 rfl (lv_at hl 3 rfl) ?_
  refine lv_aload_n hx hb d_L_law_758 rfl (lv_at hl 1 rfl) ?_
  refine lv_iload hx hb d_L_law_759 (lv_at hl 5 rfl) ?_
  refine lv_iconst (v := nI 1) hx hb d_L_law_761 (by decide) ?_
  refine nr_iadd hx hb d_L_law_762 ?_
  refine lr_arg F w hX hbl (show i + 1 < L by omega) hL d_L_law_763 ?_
  refine lv_aload_n hx hb d_L_law_764 rfl (lv_at hl 1 rfl) ?_
  refine lv_iload hx hb d_L_law_765 (lv_at hl 5 rfl) ?_
  refine lv_iconst (v := nI 2) hx hb d_L_law_767 (by decide) ?_
  refine nr_iadd hx hb d_L_law_768 ?_
  refine lr_arg F w hX hbl (show i + 2 < L by omega) hL d_L_law_769 ?_
  refine lr_refI (As := [.int (xs (i + 1)), .int (xs (i + 2))]) F w hl.1 hR (cwV 2 hts (gd_gt m_733 (kwV m_730 m_731 m_732 m_6 m_733)) rfl rfl rfl (by decide +kernel) ⟨Nat.le_of_ble_eq_true rfl, Nat.le_of_ble_eq_true rfl⟩) rfl rfl (Nat.le_of_ble_eq_true rfl) d_L_law_770 ⟨hc, hs⟩ (fun r2 τ1 H1 locs1 hp w => ?_)
  obtain ⟨hr2, hs2⟩ := hp
  rw [hs2] at w
  rw [hr2]
  refine lv_istore (lv' := [(6, .int y.1), (5, .int (nI (gOne x.1))), (0, .ref b), (1, .ref (ad 0)), (2, .ref (ad2 0)), (3, .ref o), (4, .int (nI i))]) hx hb d_L_law_773 hl (by decide) rfl (fun ls hl => ?_)
  refine lv_aload_n hx hb d_L_law_775 rfl (lv_at hl 4 rfl) ?_
  refine lr_refI (As := []) F w hl.1 (c_R_thrown (l := l) (D := D) (cI := cI) (cF := cF) (cZ := cZ) (cJ := cJ) (ad := ad2) y.2) (cwV 0 hts (gd_gt m_599 (kwV m_596 m_597 m_598 m_6 m_599)) rfl rfl rfl (by decide +kernel) ⟨Nat.le_of_ble_eq_true rfl, Nat.le_of_ble_eq_true rfl⟩) rfl rfl (Nat.le_of_ble_eq_true rfl) d_L_law_776 ⟨hc, hs⟩ (fun r3 τ2 H1 locs1 hp w => ?_)
  obtain ⟨hr3, hs3⟩ := hp
  rw [hs3] at w
  rw [hr3]
  refine lv_iload hx hb d_L_law_779 (lv_at hl 1 rfl) ?_
  refine lv_icmp_eq (tgt := 786) hx hb d_L_law_781 (by decide) (fun _ => ?_) (fun c9 => absurd hthr c9)
  refine lv_iload hx hb d_L_law_786 (lv_at hl 1 rfl) ?_
  refine lv_if_ne (tgt := 803) hx hb d_L_law_788 (by decide) (fun _ => ?_) (fun c9 => ?_)
  · skip
    refine lv_goto (tgt := 938) hx hb d_L_law_803 (by decide) ?_
    exact kk _ _ f1 H1 locs1 ls hJ1 w (lv_sub hl [2, 3, 4, 5, 6] rfl)
  · have h0 : x.1 = 0 := gOne_0 c9
    have hf0 : f1 0 = y.1.toInt64 := by rw [hf1 rfl h0, hans h0]
    refine lv_aload_n hx hb d_L_law_791 rfl (lv_at hl 5 rfl) ?_
    refine lv_iconst (v := 0) hx hb d_L_law_792 (by decide) ?_
    refine lr_lald F w d_L_law_793 ?_
    rw [hf0]
    refine lv_iload hx hb d_L_law_794 (lv_at hl 0 rfl) ?_
    refine lv_i2l hx hb d_L_law_796 rfl ?_
    refine nr_lcmpEq hx hb d_L_law_797 ?_
    refine lv_if_eq (tgt := 803) hx hb d_L_law_798 (by decide) (fun _ => ?_) (fun c8 => absurd rfl c8)
    refine lv_goto (tgt := 938) hx hb d_L_law_803 (by decide) ?_
    exact kk _ _ f1 H1 locs1 ls hJ1 w (lv_sub hl [2, 3, 4, 5, 6] rfl)
set_option maxHeartbeats 4000000 in
set_option maxRecDepth 100000 in
theorem k_torn (hl9 : l.stackTraces = false) (F : CallFix p m c b_L_law 7 s args gt R_L) (w : gW D cI cF cZ cJ ad ad2 o σ τ f s H locs) (hT : tF (fun q : Nat => s.heap.size ≤ q) s s.heap) (hN : nC s) (hX : va_X b L xs s s.heap) (hbl : b < s.heap.size) (hL : L ≤ 2048) (hi : i + 4 ≤ L) (hJ : J B σ τ) (hB : B + 16 < 2 ^ 30) (hc : cells + 5 ≤ room_1.cells) (hs : slots + 30 ≤ room_1.slots) (hl : lv_has ls 7 [(0, .ref b), (1, .ref (ad 0)), (2, .ref (ad2 0)), (3, .ref o), (4, .int (nI i))])
    (kk : ∀ (σ1 τ1 : Mem) (f1 : Nat → Int64) (H1 : Heap) (locs1 : List Loc) (ls1 : Array Slot), J (B + 16) σ1 τ1 → gW D cI cF cZ cJ ad ad2 o σ1 τ1 f1 s H1 locs1 → lv_has ls1 7 [(0, .ref b), (1, .ref (ad 0)), (2, .ref (ad2 0)), (3, .ref o), (4, .int (nI i))] → W p l e room_1 s m args below meth c H1 locs1 (cells + 5) (slots + 30) Q (F0 m 938 ls1 [])) : W p l e room_1 s m args below meth c H locs cells slots Q (F0 m 806 ls []) := by
  obtain ⟨hx, hb, hml, hown, hts⟩ := id F
  have hA := j_torn hJ
  refine W.widen (k := cells + 5) (n := slots + 30) (Nat.le_add_right _ _) (Nat.le_add_right _ _) ?_
  refine lv_aload_n hx hb d_L_law_806 rfl (lv_at hl 1 rfl) ?_
  refine lr_clsI (As := []) F w hl.1 (c_P_torn (l := l) (D := D) (cI := cI) (cF := cF) (cZ := cZ) (cJ := cJ) (ad := ad) σ) (cwV 0 hts (gd_gt m_158 (kwV m_155 m_156 m_157 m_1 m_158)) rfl rfl rfl (by decide +kernel) ⟨Nat.le_of_ble_eq_true rfl, Nat.le_of_ble_eq_true rfl⟩) rfl rfl (Nat.le_of_ble_eq_true rfl) d_L_law_807 ⟨hc, hs⟩ (fun r1 σ1 H1 locs1 hp w => ?_)
  obtain ⟨hr1, hs1⟩ := hp
  rw [hs1] at w
  rw [hr1]
  refine lv_aload_n hx hb d_L_law_810 rfl (lv_at hl 2 rfl) ?_
  refine lr_refI (As := []) F w hl.1 (c_R_torn (l := l) (D := D) (cI := cI) (cF := cF) (cZ := cZ) (cJ := cJ) (ad := ad2) τ) (cwV 0 hts (gd_gt m_737 (kwV m_734 m_735 m_736 m_6 m_737)) rfl rfl rfl (by decide +kernel) ⟨Nat.le_of_ble_eq_true rfl, Nat.le_of_ble_eq_true rfl⟩) rfl rfl (Nat.le_of_ble_eq_true rfl) d_L_law_811 ⟨hc, hs⟩ (fun r2 τ1 H1 locs1 hp w => ?_)
  obtain ⟨hr2, hs2⟩ := hp
  rw [hs2] at w
  rw [hr2]
  exact lv_icmp_eq (tgt := 938) hx hb d_L_law_814 (by decide) (fun _ => kk _ _ f H1 locs1 ls hA.2 w hl) (fun c9 => absurd hA.1 c9)
set_option maxHeartbeats 4000000 in
set_option maxRecDepth 100000 in
theorem k_writes (hl9 : l.stackTraces = false) (F : CallFix p m c b_L_law 7 s args gt R_L) (w : gW D cI cF cZ cJ ad ad2 o σ τ f s H locs) (hT : tF (fun q : Nat => s.heap.size ≤ q) s s.heap) (hN : nC s) (hX : va_X b L xs s s.heap) (hbl : b < s.heap.size) (hL : L ≤ 2048) (hi : i + 4 ≤ L) (hJ : J B σ τ) (hB : B + 16 < 2 ^ 30) (hc : cells + 5 ≤ room_1.cells) (hs : slots + 30 ≤ room_1.slots) (hl : lv_has ls 7 [(0, .ref b), (1, .ref (ad 0)), (2, .ref (ad2 0)), (3, .ref o), (4, .int (nI i))])
    (kk : ∀ (σ1 τ1 : Mem) (f1 : Nat → Int64) (H1 : Heap) (locs1 : List Loc) (ls1 : Array Slot), J (B + 16) σ1 τ1 → gW D cI cF cZ cJ ad ad2 o σ1 τ1 f1 s H1 locs1 → lv_has ls1 7 [(0, .ref b), (1, .ref (ad 0)), (2, .ref (ad2 0)), (3, .ref o), (4, .int (nI i))] → W p l e room_1 s m args below meth c H1 locs1 (cells + 5) (slots + 30) Q (F0 m 938 ls1 [])) : W p l e room_1 s m args below meth c H locs cells slots Q (F0 m 819 ls []) := by
  obtain ⟨hx, hb, hml, hown, hts⟩ := id F
  have hA := j_writes hJ
  refine W.widen (k := cells + 5) (n := slots + 30) (Nat.le_add_right _ _) (Nat.le_add_right _ _) ?_
  refine lv_aload_n hx hb d_L_law_819 rfl (lv_at hl 1 rfl) ?_
  refine lr_clsI (As := []) F w hl.1 (c_P_writes (l := l) (D := D) (cI := cI) (cF := cF) (cZ := cZ) (cJ := cJ) (ad := ad) σ) (cwV 0 hts (gd_gt m_162 (kwV m_159 m_160 m_161 m_1 m_162)) rfl rfl rfl (by decide +kernel) ⟨Nat.le_of_ble_eq_true rfl, Nat.le_of_ble_eq_true rfl⟩) rfl rfl (Nat.le_of_ble_eq_true rfl) d_L_law_820 ⟨hc, hs⟩ (fun r1 σ1 H1 locs1 hp w => ?_)
  obtain ⟨hr1, hs1⟩ := hp
  rw [hs1] at w
  rw [hr1]
  refine lv_aload_n hx hb d_L_law_823 rfl (lv_at hl 2 rfl) ?_
  refine lr_refI (As := []) F w hl.1 (c_R_writes (l := l) (D := D) (cI := cI) (cF := cF) (cZ := cZ) (cJ := cJ) (ad := ad2) τ) (cwV 0 hts (gd_gt m_741 (kwV m_738 m_739 m_740 m_6 m_741)) rfl rfl rfl (by decide +kernel) ⟨Nat.le_of_ble_eq_true rfl, Nat.le_of_ble_eq_true rfl⟩) rfl rfl (Nat.le_of_ble_eq_true rfl) d_L_law_824 ⟨hc, hs⟩ (fun r2 τ1 H1 locs1 hp w => ?_)
  obtain ⟨hr2, hs2⟩ := hp
  rw [hs2] at w
  rw [hr2]
  exact lv_icmp_eq (tgt := 938) hx hb d_L_law_827 (by decide) (fun _ => kk _ _ f H1 locs1 ls hA.2 w hl) (fun c9 => absurd hA.1 c9)
set_option maxHeartbeats 4000000 in
set_option maxRecDepth 100000 in
theorem k_cutAfter (hl9 : l.stackTraces = false) (F : CallFix p m c b_L_law 7 s args gt R_L) (w : gW D cI cF cZ cJ ad ad2 o σ τ f s H locs) (hT : tF (fun q : Nat => s.heap.size ≤ q) s s.heap) (hN : nC s) (hX : va_X b L xs s s.heap) (hbl : b < s.heap.size) (hL : L ≤ 2048) (hi : i + 4 ≤ L) (hJ : J B σ τ) (hB : B + 16 < 2 ^ 30) (hc : cells + 5 ≤ room_1.cells) (hs : slots + 30 ≤ room_1.slots) (hl : lv_has ls 7 [(0, .ref b), (1, .ref (ad 0)), (2, .ref (ad2 0)), (3, .ref o), (4, .int (nI i))])
    (kk : ∀ (σ1 τ1 : Mem) (f1 : Nat → Int64) (H1 : Heap) (locs1 : List Loc) (ls1 : Array Slot), J (B + 16) σ1 τ1 → gW D cI cF cZ cJ ad ad2 o σ1 τ1 f1 s H1 locs1 → lv_has ls1 7 [(0, .ref b), (1, .ref (ad 0)), (2, .ref (ad2 0)), (3, .ref o), (4, .int (nI i))] → W p l e room_1 s m args below meth c H1 locs1 (cells + 5) (slots + 30) Q (F0 m 938 ls1 [])) : W p l e room_1 s m args below meth c H locs cells slots Q (F0 m 832 ls []) := by
  obtain ⟨hx, hb, hml, hown, hts⟩ := id F
  have hA := j_cutA hJ (xs (i + 1))
  have hok := hJ.ok (show B < 2 ^ 30 by omega)
  have hW := c_L_cutAfter (l := l) (D := D) (cI := cI) (cF := cF) (cZ := cZ) (cJ := cJ) (ad := ad) (o := o) hl9 σ (xs (i + 1))  hA.2.2.2.1 hA.2.2.2.2
  have hR := c_R_cutAfter (l := l) (D := D) (cI := cI) (cF := cF) (cZ := cZ) (cJ := cJ) (ad := ad2) τ (xs (i + 1)) 
  generalize xCutA σ (xs (i + 1)) = x at hA hW
  generalize qCutA τ (xs (i + 1)) = y at hA hR
  obtain ⟨hthr, hans, hJ1, -, hks⟩ := hA
  refine lv_aload_n hx hb d_L_law_832 rfl (lv_at hl 1 rfl) ?_
  refine lv_aload_n hx hb d_L_law_833 rfl (lv_at hl 0 rfl) ?_
  refine lv_iload hx hb d_L_law_834 (lv_at hl 4 rfl) ?_
  refine lv_iconst (v := nI 1) hx hb d_L_law_836 (by decide) ?_
  refine nr_iadd hx hb d_L_law_837 ?_
  refine lr_arg F w hX hbl (show i + 1 < L by omega) hL d_L_law_838 ?_
  refine lr_wrap (As := [.ref (ad 0), .int (xs (i + 1))]) F w hT hN hl.1 hW (vx_cwSW 2 hts (gd_S m_458 m_459 m_0 m_460) rfl rfl rfl (by decide +kernel) ⟨Nat.le_of_ble_eq_true rfl, Nat.le_of_ble_eq_true rfl⟩) rfl rfl (Nat.le_of_ble_eq_true rfl) d_L_law_839 ⟨Nat.le_trans (Nat.add_le_add_left (Nat.le_of_ble_eq_true rfl) _) hc, Nat.le_trans (Nat.add_le_add_left (Nat.le_of_ble_eq_true rfl) _) hs⟩ (fun f1 H1 locs1 hf1 w => ?_)
  refine W.widen (k := cells + 5) (n := slots + 30) (Nat.add_le_add_left (Nat.le_of_ble_eq_true rfl) _) (Nat.add_le_add_left (Nat.le_of_ble_eq_true rfl) _) ?_
  refine lv_istore (lv' := [(5, .int (nI (gOne x.1))), (0, .ref b), (1, .ref (ad 0)), (2, .ref (ad2 0)), (3, .ref o), (4, .int (nI i))]) hx hb d_L_law_842 hl (by decide) rfl (fun ls hl => ?_)
  refine lv_aload_n hx hb d_L_law_844 rfl (lv_at hl 3 rfl) ?_
  refine lv_aload_n hx hb d_L_law_845 rfl (lv_at hl 1 rfl) ?_
  refine lv_iload hx hb d_L_law_846 (lv_at hl 5 rfl) ?_
  refine lv_iconst (v := nI 1) hx hb d_L_law_848 (by decide) ?_
  refine nr_iadd hx hb d_L_law_849 ?_
  refine lr_arg F w hX hbl (show i + 1 < L by omega) hL d_L_law_850 ?_
  refine lr_refV (As := [.int (xs (i + 1))]) F w hl.1 hR (cwV 1 hts (gd_gt m_603 (kwV m_600 m_601 m_602 m_6 m_603)) rfl rfl rfl (by decide +kernel) ⟨Nat.le_of_ble_eq_true rfl, Nat.le_of_ble_eq_true rfl⟩) rfl rfl (Nat.le_of_ble_eq_true rfl) d_L_law_851 ⟨hc, hs⟩ (fun τ1 H1 locs1 hp w => ?_)
  rw [hp] at w
  refine lv_aload_n hx hb d_L_law_854 rfl (lv_at hl 3 rfl) ?_
  refine lr_refI (As := []) F w hl.1 (c_R_thrown (l := l) (D := D) (cI := cI) (cF := cF) (cZ := cZ) (cJ := cJ) (ad := ad2) y) (cwV 0 hts (gd_gt m_599 (kwV m_596 m_597 m_598 m_6 m_599)) rfl rfl rfl (by decide +kernel) ⟨Nat.le_of_ble_eq_true rfl, Nat.le_of_ble_eq_true rfl⟩) rfl rfl (Nat.le_of_ble_eq_true rfl) d_L_law_855 ⟨hc, hs⟩ (fun r3 τ2 H1 locs1 hp w => ?_)
  obtain ⟨hr3, hs3⟩ := hp
  rw [hs3] at w
  rw [hr3]
  refine lv_iload hx hb d_L_law_858 (lv_at hl 0 rfl) ?_
  refine lv_icmp_eq (tgt := 865) hx hb d_L_law_860 (by decide) (fun _ => ?_) (fun c9 => absurd hthr c9)
  refine lv_goto (tgt := 938) hx hb d_L_law_865 (by decide) ?_
  exact kk _ _ f1 H1 locs1 ls hJ1 w (lv_sub hl [1, 2, 3, 4, 5] rfl)
set_option maxHeartbeats 4000000 in
set_option maxRecDepth 100000 in
theorem k_cut (hl9 : l.stackTraces = false) (F : CallFix p m c b_L_law 7 s args gt R_L) (w : gW D cI cF cZ cJ ad ad2 o σ τ f s H locs) (hT : tF (fun q : Nat => s.heap.size ≤ q) s s.heap) (hN : nC s) (hX : va_X b L xs s s.heap) (hbl : b < s.heap.size) (hL : L ≤ 2048) (hi : i + 4 ≤ L) (hJ : J B σ τ) (hB : B + 16 < 2 ^ 30) (hc : cells + 5 ≤ room_1.cells) (hs : slots + 30 ≤ room_1.slots) (hl : lv_has ls 7 [(0, .ref b), (1, .ref (ad 0)), (2, .ref (ad2 0)), (3, .ref o), (4, .int (nI i))])
    (kk : ∀ (σ1 τ1 : Mem) (f1 : Nat → Int64) (H1 : Heap) (locs1 : List Loc) (ls1 : Array Slot), J (B + 16) σ1 τ1 → gW D cI cF cZ cJ ad ad2 o σ1 τ1 f1 s H1 locs1 → lv_has ls1 7 [(0, .ref b), (1, .ref (ad 0)), (2, .ref (ad2 0)), (3, .ref o), (4, .int (nI i))] → W p l e room_1 s m args below meth c H1 locs1 (cells + 5) (slots + 30) Q (F0 m 938 ls1 [])) : W p l e room_1 s m args below meth c H locs cells slots Q (F0 m 868 ls []) := by
  obtain ⟨hx, hb, hml, hown, hts⟩ := id F
  have hA := j_cut hJ
  refine W.widen (k := cells + 5) (n := slots + 30) (Nat.le_add_right _ _) (Nat.le_add_right _ _) ?_
  refine lv_aload_n hx hb d_L_law_868 rfl (lv_at hl 1 rfl) ?_
  refine lr_clsI (As := []) F w hl.1 (c_P_cut (l := l) (D := D) (cI := cI) (cF := cF) (cZ := cZ) (cJ := cJ) (ad := ad) σ) (cwV 0 hts (gd_gt m_166 (kwV m_163 m_164 m_165 m_1 m_166)) rfl rfl rfl (by decide +kernel) ⟨Nat.le_of_ble_eq_true rfl, Nat.le_of_ble_eq_true rfl⟩) rfl rfl (Nat.le_of_ble_eq_true rfl) d_L_law_869 ⟨hc, hs⟩ (fun r1 σ1 H1 locs1 hp w => ?_)
  obtain ⟨hr1, hs1⟩ := hp
  rw [hs1] at w
  rw [hr1]
  refine lv_aload_n hx hb d_L_law_872 rfl (lv_at hl 2 rfl) ?_
  refine lr_refI (As := []) F w hl.1 (c_R_cut (l := l) (D := D) (cI := cI) (cF := cF) (cZ := cZ) (cJ := cJ) (ad := ad2) τ) (cwV 0 hts (gd_gt m_611 (kwV m_608 m_609 m_610 m_6 m_611)) rfl rfl rfl (by decide +kernel) ⟨Nat.le_of_ble_eq_true rfl, Nat.le_of_ble_eq_true rfl⟩) rfl rfl (Nat.le_of_ble_eq_true rfl) d_L_law_873 ⟨hc, hs⟩ (fun r2 τ1 H1 locs1 hp w => ?_)
  obtain ⟨hr2, hs2⟩ := hp
  rw [hs2] at w
  rw [hr2]
  exact lv_icmp_eq (tgt := 938) hx hb d_L_law_876 (by decide) (fun _ => kk _ _ f H1 locs1 ls hA.2 w hl) (fun c9 => absurd hA.1 c9)
set_option maxHeartbeats 4000000 in
set_option maxRecDepth 100000 in
theorem k_start (hl9 : l.stackTraces = false) (F : CallFix p m c b_L_law 7 s args gt R_L) (w : gW D cI cF cZ cJ ad ad2 o σ τ f s H locs) (hT : tF (fun q : Nat => s.heap.size ≤ q) s s.heap) (hN : nC s) (hX : va_X b L xs s s.heap) (hbl : b < s.heap.size) (hL : L ≤ 2048) (hi : i + 4 ≤ L) (hJ : J B σ τ) (hB : B + 16 < 2 ^ 30) (hc : cells + 5 ≤ room_1.cells) (hs : slots + 30 ≤ room_1.slots) (hl : lv_has ls 7 [(0, .ref b), (1, .ref (ad 0)), (2, .ref (ad2 0)), (3, .ref o), (4, .int (nI i))])
    (kk : ∀ (σ1 τ1 : Mem) (f1 : Nat → Int64) (H1 : Heap) (locs1 : List Loc) (ls1 : Array Slot), J (B + 16) σ1 τ1 → gW D cI cF cZ cJ ad ad2 o σ1 τ1 f1 s H1 locs1 → lv_has ls1 7 [(0, .ref b), (1, .ref (ad 0)), (2, .ref (ad2 0)), (3, .ref o), (4, .int (nI i))] → W p l e room_1 s m args below meth c H1 locs1 (cells + 5) (slots + 30) Q (F0 m 938 ls1 [])) : W p l e room_1 s m args below meth c H locs cells slots Q (F0 m 881 ls []) := by
  obtain ⟨hx, hb, hml, hown, hts⟩ := id F
  obtain ⟨a9, d9, N9, e1, e2, e3, e4, e5, e6, e7, e8, hA⟩ := j_start hJ hB
  have hW := c_L_start (l := l) (D := D) (cI := cI) (cF := cF) (cZ := cZ) (cJ := cJ) (ad := ad) (o := o) hl9 σ e6 e7 e8 hA.2.2.2.1 hA.2.2.2.2
  have hR := c_R_start (l := l) (D := D) (cI := cI) (cF := cF) (cZ := cZ) (cJ := cJ) (ad := ad2) τ a9 d9 N9 e1 e2 e3 e4 e5
  generalize xStart σ = x at hA hW
  generalize qStart τ a9 d9 N9 = y at hA hR
  obtain ⟨hthr, hans, hJ1, -, hks⟩ := hA
  refine lv_aload_n hx hb d_L_law_881 rfl (lv_at hl 1 rfl) ?_
  refine lv_aload_n hx hb d_L_law_882 rfl (lv_at hl 3 rfl) ?_
  refine lr_wrap (As := [.ref (ad 0), .ref o]) F w hT hN hl.1 hW (vx_cwSW 2 hts (gd_S m_482 m_483 m_0 m_484) rfl rfl rfl (by decide +kernel) ⟨Nat.le_of_ble_eq_true rfl, Nat.le_of_ble_eq_true rfl⟩) rfl rfl (Nat.le_of_ble_eq_true rfl) d_L_law_883 ⟨Nat.le_trans (Nat.add_le_add_left (Nat.le_of_ble_eq_true rfl) _) hc, Nat.le_trans (Nat.add_le_add_left (Nat.le_of_ble_eq_true rfl) _) hs⟩ (fun f1 H1 locs1 hf1 w => ?_)
  refine W.widen (k := cells + 5) (n := slots + 30) (Nat.add_le_add_left (Nat.le_of_ble_eq_true rfl) _) (Nat.add_le_add_left (Nat.le_of_ble_eq_true rfl) _) ?_
  refine lv_istore (lv' := [(5, .int (nI (gOne x.1))), (0, .ref b), (1, .ref (ad 0)), (2, .ref (ad2 0)), (3, .ref o), (4, .int (nI i))]) hx hb d_L_law_886 hl (by decide) rfl (fun ls hl => ?_)
  refine lv_aload_n hx hb d_L_law_888 rfl (lv_at hl 3 rfl) ?_
  refine lr_refI (As := []) F w hl.1 hR (cwV 0 hts (gd_gt m_721 (kwV m_718 m_719 m_720 m_6 m_721)) rfl rfl rfl (by decide +kernel) ⟨Nat.le_of_ble_eq_true rfl, Nat.le_of_ble_eq_true rfl⟩) rfl rfl (Nat.le_of_ble_eq_true rfl) d_L_law_889 ⟨hc, hs⟩ (fun r2 τ1 H1 locs1 hp w => ?_)
  obtain ⟨hr2, hs2⟩ := hp
  rw [hs2] at w
  rw [hr2]
  refine lv_istore (lv' := [(6, .int y.1), (5, .int (nI (gOne x.1))), (0, .ref b), (1, .ref (ad 0)), (2, .ref (ad2 0)), (3, .ref o), (4, .int (nI i))]) hx hb d_L_law_892 hl (by decide) rfl (fun ls hl => ?_)
  refine lv_aload_n hx hb d_L_law_894 rfl (lv_at hl 4 rfl) ?_
  refine lr_refI (As := []) F w hl.1 (c_R_thrown (l := l) (D := D) (cI := cI) (cF := cF) (cZ := cZ) (cJ := cJ) (ad := ad2) y.2) (cwV 0 hts (gd_gt m_599 (kwV m_596 m_597 m_598 m_6 m_599)) rfl rfl rfl (by decide +kernel) ⟨Nat.le_of_ble_eq_true rfl, Nat.le_of_ble_eq_true rfl⟩) rfl rfl (Nat.le_of_ble_eq_true rfl) d_L_law_895 ⟨hc, hs⟩ (fun r3 τ2 H1 locs1 hp w => ?_)
  obtain ⟨hr3, hs3⟩ := hp
  rw [hs3] at w
  rw [hr3]
  refine lv_iload hx hb d_L_law_898 (lv_at hl 1 rfl) ?_
  refine lv_icmp_eq (tgt := 905) hx hb d_L_law_900 (by decide) (fun _ => ?_) (fun c9 => absurd hthr c9)
  refine lv_iload hx hb d_L_law_905 (lv_at hl 1 rfl) ?_
  refine lv_if_ne (tgt := 922) hx hb d_L_law_907 (by decide) (fun _ => ?_) (fun c9 => ?_)
  · skip
    refine lv_goto (tgt := 938) hx hb d_L_law_922 (by decide) ?_
    exact kk _ _ f1 H1 locs1 ls hJ1 w (lv_sub hl [2, 3, 4, 5, 6] rfl)
  · have h0 : x.1 = 0 := gOne_0 c9
    have hf0 : f1 0 = y.1.toInt64 := by rw [hf1 rfl h0, hans h0]
    refine lv_aload_n hx hb d_L_law_910 rfl (lv_at hl 5 rfl) ?_
    refine lv_iconst (v := 0) hx hb d_L_law_911 (by decide) ?_
    refine lr_lald F w d_L_law_912 ?_
    rw [hf0]
    refine lv_iload hx hb d_L_law_913 (lv_at hl 0 rfl) ?_
    refine lv_i2l hx hb d_L_law_915 rfl ?_
    refine nr_lcmpEq hx hb d_L_law_916 ?_
    refine lv_if_eq (tgt := 922) hx hb d_L_law_917 (by decide) (fun _ => ?_) (fun c8 => absurd rfl c8)
    refine lv_goto (tgt := 938) hx hb d_L_law_922 (by decide) ?_
    exact kk _ _ f1 H1 locs1 ls hJ1 w (lv_sub hl [2, 3, 4, 5, 6] rfl)
set_option maxHeartbeats 4000000 in
set_option maxRecDepth 100000 in
theorem k_isOn (hl9 : l.stackTraces = false) (F : CallFix p m c b_L_law 7 s args gt R_L) (w : gW D cI cF cZ cJ ad ad2 o σ τ f s H locs) (hT : tF (fun q : Nat => s.heap.size ≤ q) s s.heap) (hN : nC s) (hX : va_X b L xs s s.heap) (hbl : b < s.heap.size) (hL : L ≤ 2048) (hi : i + 4 ≤ L) (hJ : J B σ τ) (hB : B + 16 < 2 ^ 30) (hc : cells + 5 ≤ room_1.cells) (hs : slots + 30 ≤ room_1.slots) (hl : lv_has ls 7 [(0, .ref b), (1, .ref (ad 0)), (2, .ref (ad2 0)), (3, .ref o), (4, .int (nI i))])
    (kk : ∀ (σ1 τ1 : Mem) (f1 : Nat → Int64) (H1 : Heap) (locs1 : List Loc) (ls1 : Array Slot), J (B + 16) σ1 τ1 → gW D cI cF cZ cJ ad ad2 o σ1 τ1 f1 s H1 locs1 → lv_has ls1 7 [(0, .ref b), (1, .ref (ad 0)), (2, .ref (ad2 0)), (3, .ref o), (4, .int (nI i))] → W p l e room_1 s m args below meth c H1 locs1 (cells + 5) (slots + 30) Q (F0 m 938 ls1 [])) : W p l e room_1 s m args below meth c H locs cells slots Q (F0 m 925 ls []) := by
  obtain ⟨hx, hb, hml, hown, hts⟩ := id F
  have hA := j_isOn hJ
  refine W.widen (k := cells + 5) (n := slots + 30) (Nat.le_add_right _ _) (Nat.le_add_right _ _) ?_
  refine lv_aload_n hx hb d_L_law_925 rfl (lv_at hl 1 rfl) ?_
  refine lr_clsI (As := []) F w hl.1 (c_P_isOn (l := l) (D := D) (cI := cI) (cF := cF) (cZ := cZ) (cJ := cJ) (ad := ad) σ hJ.on) (cwV 0 hts (gd_gt m_182 (kwV m_179 m_180 m_181 m_1 m_182)) rfl rfl rfl (by decide +kernel) ⟨Nat.le_of_ble_eq_true rfl, Nat.le_of_ble_eq_true rfl⟩) rfl rfl (Nat.le_of_ble_eq_true rfl) d_L_law_926 ⟨hc, hs⟩ (fun r1 σ1 H1 locs1 hp w => ?_)
  obtain ⟨hr1, hs1⟩ := hp
  rw [hs1] at w
  rw [hr1]
  refine lv_aload_n hx hb d_L_law_929 rfl (lv_at hl 2 rfl) ?_
  refine lr_refI (As := []) F w hl.1 (c_R_isOn (l := l) (D := D) (cI := cI) (cF := cF) (cZ := cZ) (cJ := cJ) (ad := ad2) τ) (cwV 0 hts (gd_gt m_619 (kwV m_616 m_617 m_618 m_6 m_619)) rfl rfl rfl (by decide +kernel) ⟨Nat.le_of_ble_eq_true rfl, Nat.le_of_ble_eq_true rfl⟩) rfl rfl (Nat.le_of_ble_eq_true rfl) d_L_law_930 ⟨hc, hs⟩ (fun r2 τ1 H1 locs1 hp w => ?_)
  obtain ⟨hr2, hs2⟩ := hp
  rw [hs2] at w
  rw [hr2]
  exact lv_icmp_eq (tgt := 938) hx hb d_L_law_933 (by decide) (fun _ => kk _ _ f H1 locs1 ls hA.2 w hl) (fun c9 => absurd hA.1 c9)
end
