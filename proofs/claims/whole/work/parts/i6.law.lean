section LAWC
variable {X : PX} {kc ks k n b LL j : Nat} {scr : Nat → Int32} {sh : Sh} {I : IM} {L : LM} {R : RM}
theorem law_0 (h : PXok X RL cL_law 13 kc ks) (hs : PXs X b LL scr) (hL : LL ≤ 3072) (hj : j + 6 ≤ LL) (hk : k ≤ kc) (hn : n ≤ ks) (hJ : JJ sh I L R) (kk : ∀ (I2 : IM) (L2 : LM) (R2 : RM), JJ sh I2 L2 R2 → PW X 1261 (lwL j) [] sh I2 L2 R2 k n) : PW X 172 (lwL j) [] sh I L R k n := by
  refine pw_aload_n h 2 d_L_law_172 rfl ?_
  refine law_arg 1 h hs hL d_L_law_173 d_L_law_174 d_L_law_175 (by decide) d_L_law_176 d_L_law_177 (by omega) ?_
  refine law_arg 2 h hs hL d_L_law_178 d_L_law_179 d_L_law_180 (by decide) d_L_law_181 d_L_law_182 (by omega) ?_
  obtain ⟨P1, c1, w1⟩ := j_bearing hJ (scr (j + 1)) (scr (j + 2))
  refine pw_callV (As := [.int _, .int _]) h d_L_law_183 mf_X7_bearing mi_X7_bearing ml_RL_13 ⟨by decide, hk, hn⟩ (JJ7 hJ) rfl rfl (Nat.le_of_ble_eq_true rfl) trivial c1 ?_
  intro r sh1 I1 L1 R1 hp
  obtain ⟨e1, x, er, P2, c2, w2⟩ := w1 _ _ _ _ _ hp
  subst er; have e1 := e1.symm; subst e1
  refine ⟨rfl, ?_⟩
  refine pw_aload_n h 1 d_L_law_186 rfl ?_
  refine law_arg 1 h hs hL d_L_law_187 d_L_law_188 d_L_law_189 (by decide) d_L_law_190 d_L_law_191 (by omega) ?_
  refine law_arg 2 h hs hL d_L_law_192 d_L_law_193 d_L_law_194 (by decide) d_L_law_195 d_L_law_196 (by omega) ?_
  refine pw_callV (As := [.int _, .int _]) h d_L_law_197 mf_X8_bearing mi_X8_bearing ml_RL_17 ⟨by decide, hk, hn⟩ (JJ8 hJ) rfl rfl (Nat.le_of_ble_eq_true rfl) trivial c2 ?_
  intro r2 sh2 I2 L2 R2 hp2
  obtain ⟨e2, er, hJ2⟩ := w2 _ _ _ _ _ hp2
  subst er; have e2 := e2.symm; subst e2
  refine ⟨rfl, ?_⟩
  exact pw_icmp_eq 1261 h d_L_law_200 (by decide) (fun _ => kk _ _ _ hJ2) (fun q => absurd rfl q)
theorem law_1 (h : PXok X RL cL_law 13 kc ks) (hs : PXs X b LL scr) (hL : LL ≤ 3072) (hj : j + 6 ≤ LL) (hk : k ≤ kc) (hn : n ≤ ks) (hJ : JJ sh I L R) (kk : ∀ (I2 : IM) (L2 : LM) (R2 : RM), JJ sh I2 L2 R2 → PW X 1261 (lwL j) [] sh I2 L2 R2 k n) : PW X 205 (lwL j) [] sh I L R k n := by
  refine pw_aload_n h 2 d_L_law_205 rfl ?_
  refine law_arg 1 h hs hL d_L_law_206 d_L_law_207 d_L_law_208 (by decide) d_L_law_209 d_L_law_210 (by omega) ?_
  obtain ⟨P1, c1, w1⟩ := j_remove hJ (scr (j + 1))
  refine pw_callV (As := [.int _]) h d_L_law_211 mf_X7_remove mi_X7_remove ml_RL_18 ⟨by decide, hk, hn⟩ (JJ7 hJ) rfl rfl (Nat.le_of_ble_eq_true rfl) trivial c1 ?_
  intro r sh1 I1 L1 R1 hp
  obtain ⟨e1, x, er, P2, c2, w2⟩ := w1 _ _ _ _ _ hp
  subst er; have e1 := e1.symm; subst e1
  refine ⟨rfl, ?_⟩
  refine pw_aload_n h 1 d_L_law_214 rfl ?_
  refine law_arg 1 h hs hL d_L_law_215 d_L_law_216 d_L_law_217 (by decide) d_L_law_218 d_L_law_219 (by omega) ?_
  refine pw_callV (As := [.int _]) h d_L_law_220 mf_X8_remove mi_X8_remove ml_RL_22 ⟨by decide, hk, hn⟩ (JJ8 hJ) rfl rfl (Nat.le_of_ble_eq_true rfl) trivial c2 ?_
  intro r2 sh2 I2 L2 R2 hp2
  obtain ⟨e2, er, hJ2⟩ := w2 _ _ _ _ _ hp2
  subst er; have e2 := e2.symm; subst e2
  refine ⟨rfl, ?_⟩
  exact pw_icmp_eq 1261 h d_L_law_223 (by decide) (fun _ => kk _ _ _ hJ2) (fun q => absurd rfl q)
theorem law_2 (h : PXok X RL cL_law 13 kc ks) (hs : PXs X b LL scr) (hL : LL ≤ 3072) (hj : j + 6 ≤ LL) (hk : k ≤ kc) (hn : n ≤ ks) (hJ : JJ sh I L R) (kk : ∀ (I2 : IM) (L2 : LM) (R2 : RM), JJ sh I2 L2 R2 → PW X 1261 (lwL j) [] sh I2 L2 R2 k n) : PW X 228 (lwL j) [] sh I L R k n := by
  refine pw_aload_n h 2 d_L_law_228 rfl ?_
  refine law_arg 1 h hs hL d_L_law_229 d_L_law_230 d_L_law_231 (by decide) d_L_law_232 d_L_law_233 (by omega) ?_
  refine law_arg 2 h hs hL d_L_law_234 d_L_law_235 d_L_law_236 (by decide) d_L_law_237 d_L_law_238 (by omega) ?_
  obtain ⟨P1, c1, w1⟩ := j_offset hJ (scr (j + 1)) (scr (j + 2))
  refine pw_callV (As := [.int _, .int _]) h d_L_law_239 mf_X7_offset mi_X7_offset ml_RL_23 ⟨by decide, hk, hn⟩ (JJ7 hJ) rfl rfl (Nat.le_of_ble_eq_true rfl) trivial c1 ?_
  intro r sh1 I1 L1 R1 hp
  obtain ⟨e1, x, er, P2, c2, w2⟩ := w1 _ _ _ _ _ hp
  subst er; have e1 := e1.symm; subst e1
  refine ⟨rfl, ?_⟩
  refine pw_aload_n h 1 d_L_law_242 rfl ?_
  refine law_arg 1 h hs hL d_L_law_243 d_L_law_244 d_L_law_245 (by decide) d_L_law_246 d_L_law_247 (by omega) ?_
  refine law_arg 2 h hs hL d_L_law_248 d_L_law_249 d_L_law_250 (by decide) d_L_law_251 d_L_law_252 (by omega) ?_
  refine pw_callV (As := [.int _, .int _]) h d_L_law_253 mf_X8_offset mi_X8_offset ml_RL_26 ⟨by decide, hk, hn⟩ (JJ8 hJ) rfl rfl (Nat.le_of_ble_eq_true rfl) trivial c2 ?_
  intro r2 sh2 I2 L2 R2 hp2
  obtain ⟨e2, er, hJ2⟩ := w2 _ _ _ _ _ hp2
  subst er; have e2 := e2.symm; subst e2
  refine ⟨rfl, ?_⟩
  exact pw_icmp_eq 1261 h d_L_law_256 (by decide) (fun _ => kk _ _ _ hJ2) (fun q => absurd rfl q)
theorem law_3 (h : PXok X RL cL_law 13 kc ks) (hs : PXs X b LL scr) (hL : LL ≤ 3072) (hj : j + 6 ≤ LL) (hk : k ≤ kc) (hn : n ≤ ks) (hJ : JJ sh I L R) (kk : ∀ (I2 : IM) (L2 : LM) (R2 : RM), JJ sh I2 L2 R2 → PW X 1261 (lwL j) [] sh I2 L2 R2 k n) : PW X 261 (lwL j) [] sh I L R k n := by
  refine pw_aload_n h 2 d_L_law_261 rfl ?_
  refine law_arg 1 h hs hL d_L_law_262 d_L_law_263 d_L_law_264 (by decide) d_L_law_265 d_L_law_266 (by omega) ?_
  refine law_arg 2 h hs hL d_L_law_267 d_L_law_268 d_L_law_269 (by decide) d_L_law_270 d_L_law_271 (by omega) ?_
  obtain ⟨P1, c1, w1⟩ := j_weight hJ (scr (j + 1)) (scr (j + 2))
  refine pw_callV (As := [.int _, .int _]) h d_L_law_272 mf_X7_weight mi_X7_weight ml_RL_27 ⟨by decide, hk, hn⟩ (JJ7 hJ) rfl rfl (Nat.le_of_ble_eq_true rfl) trivial c1 ?_
  intro r sh1 I1 L1 R1 hp
  obtain ⟨e1, x, er, P2, c2, w2⟩ := w1 _ _ _ _ _ hp
  subst er; have e1 := e1.symm; subst e1
  refine ⟨rfl, ?_⟩
  refine pw_aload_n h 1 d_L_law_275 rfl ?_
  refine law_arg 1 h hs hL d_L_law_276 d_L_law_277 d_L_law_278 (by decide) d_L_law_279 d_L_law_280 (by omega) ?_
  refine law_arg 2 h hs hL d_L_law_281 d_L_law_282 d_L_law_283 (by decide) d_L_law_284 d_L_law_285 (by omega) ?_
  refine pw_callV (As := [.int _, .int _]) h d_L_law_286 mf_X8_weight mi_X8_weight ml_RL_30 ⟨by decide, hk, hn⟩ (JJ8 hJ) rfl rfl (Nat.le_of_ble_eq_true rfl) trivial c2 ?_
  intro r2 sh2 I2 L2 R2 hp2
  obtain ⟨e2, er, hJ2⟩ := w2 _ _ _ _ _ hp2
  subst er; have e2 := e2.symm; subst e2
  refine ⟨rfl, ?_⟩
  exact pw_icmp_eq 1261 h d_L_law_289 (by decide) (fun _ => kk _ _ _ hJ2) (fun q => absurd rfl q)
theorem law_4 (h : PXok X RL cL_law 13 kc ks) (hs : PXs X b LL scr) (hL : LL ≤ 3072) (hj : j + 6 ≤ LL) (hk : k ≤ kc) (hn : n ≤ ks) (hJ : JJ sh I L R) (kk : ∀ (I2 : IM) (L2 : LM) (R2 : RM), JJ sh I2 L2 R2 → PW X 1261 (lwL j) [] sh I2 L2 R2 k n) : PW X 294 (lwL j) [] sh I L R k n := by
  refine pw_aload_n h 2 d_L_law_294 rfl ?_
  refine law_arg 1 h hs hL d_L_law_295 d_L_law_296 d_L_law_297 (by decide) d_L_law_298 d_L_law_299 (by omega) ?_
  obtain ⟨P1, c1, w1⟩ := j_stiffness hJ (scr (j + 1))
  refine pw_callV (As := [.int _]) h d_L_law_300 mf_X7_stiffness mi_X7_stiffness ml_RL_31 ⟨by decide, hk, hn⟩ (JJ7 hJ) rfl rfl (Nat.le_of_ble_eq_true rfl) trivial c1 ?_
  intro r sh1 I1 L1 R1 hp
  obtain ⟨e1, x, er, P2, c2, w2⟩ := w1 _ _ _ _ _ hp
  subst er; have e1 := e1.symm; subst e1
  refine ⟨rfl, ?_⟩
  refine pw_aload_n h 1 d_L_law_303 rfl ?_
  refine law_arg 1 h hs hL d_L_law_304 d_L_law_305 d_L_law_306 (by decide) d_L_law_307 d_L_law_308 (by omega) ?_
  refine pw_callV (As := [.int _]) h d_L_law_309 mf_X8_stiffness mi_X8_stiffness ml_RL_34 ⟨by decide, hk, hn⟩ (JJ8 hJ) rfl rfl (Nat.le_of_ble_eq_true rfl) trivial c2 ?_
  intro r2 sh2 I2 L2 R2 hp2
  obtain ⟨e2, er, hJ2⟩ := w2 _ _ _ _ _ hp2
  subst er; have e2 := e2.symm; subst e2
  refine ⟨rfl, ?_⟩
  exact pw_icmp_eq 1261 h d_L_law_312 (by decide) (fun _ => kk _ _ _ hJ2) (fun q => absurd rfl q)
theorem law_5 (h : PXok X RL cL_law 13 kc ks) (hs : PXs X b LL scr) (hL : LL ≤ 3072) (hj : j + 6 ≤ LL) (hk : k ≤ kc) (hn : n ≤ ks) (hJ : JJ sh I L R) (kk : ∀ (I2 : IM) (L2 : LM) (R2 : RM), JJ sh I2 L2 R2 → PW X 1261 (lwL j) [] sh I2 L2 R2 k n) : PW X 317 (lwL j) [] sh I L R k n := by
  refine pw_aload_n h 2 d_L_law_317 rfl ?_
  refine law_arg 1 h hs hL d_L_law_318 d_L_law_319 d_L_law_320 (by decide) d_L_law_321 d_L_law_322 (by omega) ?_
  refine law_arg 2 h hs hL d_L_law_323 d_L_law_324 d_L_law_325 (by decide) d_L_law_326 d_L_law_327 (by omega) ?_
  refine law_arg 3 h hs hL d_L_law_328 d_L_law_329 d_L_law_330 (by decide) d_L_law_331 d_L_law_332 (by omega) ?_
  obtain ⟨P1, c1, w1⟩ := j_rise hJ (scr (j + 1)) (scr (j + 2)) (scr (j + 3))
  refine pw_callV (As := [.int _, .int _, .int _]) h d_L_law_333 mf_X7_rise mi_X7_rise ml_RL_35 ⟨by decide, hk, hn⟩ (JJ7 hJ) rfl rfl (Nat.le_of_ble_eq_true rfl) trivial c1 ?_
  intro r sh1 I1 L1 R1 hp
  obtain ⟨e1, x, er, P2, c2, w2⟩ := w1 _ _ _ _ _ hp
  subst er; have e1 := e1.symm; subst e1
  refine ⟨rfl, ?_⟩
  refine pw_aload_n h 1 d_L_law_336 rfl ?_
  refine law_arg 1 h hs hL d_L_law_337 d_L_law_338 d_L_law_339 (by decide) d_L_law_340 d_L_law_341 (by omega) ?_
  refine law_arg 2 h hs hL d_L_law_342 d_L_law_343 d_L_law_344 (by decide) d_L_law_345 d_L_law_346 (by omega) ?_
  refine law_arg 3 h hs hL d_L_law_347 d_L_law_348 d_L_law_349 (by decide) d_L_law_350 d_L_law_351 (by omega) ?_
  refine pw_callV (As := [.int _, .int _, .int _]) h d_L_law_352 mf_X8_rise mi_X8_rise ml_RL_39 ⟨by decide, hk, hn⟩ (JJ8 hJ) rfl rfl (Nat.le_of_ble_eq_true rfl) trivial c2 ?_
  intro r2 sh2 I2 L2 R2 hp2
  obtain ⟨e2, er, hJ2⟩ := w2 _ _ _ _ _ hp2
  subst er; have e2 := e2.symm; subst e2
  refine ⟨rfl, ?_⟩
  exact pw_icmp_eq 1261 h d_L_law_355 (by decide) (fun _ => kk _ _ _ hJ2) (fun q => absurd rfl q)
theorem law_6 (h : PXok X RL cL_law 13 kc ks) (hs : PXs X b LL scr) (hL : LL ≤ 3072) (hj : j + 6 ≤ LL) (hk : k ≤ kc) (hn : n ≤ ks) (hJ : JJ sh I L R) (kk : ∀ (I2 : IM) (L2 : LM) (R2 : RM), JJ sh I2 L2 R2 → PW X 1261 (lwL j) [] sh I2 L2 R2 k n) : PW X 360 (lwL j) [] sh I L R k n := by
  refine pw_aload_n h 2 d_L_law_360 rfl ?_
  refine law_arg 1 h hs hL d_L_law_361 d_L_law_362 d_L_law_363 (by decide) d_L_law_364 d_L_law_365 (by omega) ?_
  refine law_arg 2 h hs hL d_L_law_366 d_L_law_367 d_L_law_368 (by decide) d_L_law_369 d_L_law_370 (by omega) ?_
  refine law_arg 3 h hs hL d_L_law_371 d_L_law_372 d_L_law_373 (by decide) d_L_law_374 d_L_law_375 (by omega) ?_
  refine law_arg 4 h hs hL d_L_law_376 d_L_law_377 d_L_law_378 (by decide) d_L_law_379 d_L_law_380 (by omega) ?_
  refine law_arg 5 h hs hL d_L_law_381 d_L_law_382 d_L_law_383 (by decide) d_L_law_384 d_L_law_385 (by omega) ?_
  obtain ⟨P1, c1, w1⟩ := j_rises hJ (scr (j + 1)) (scr (j + 2)) (scr (j + 3)) (scr (j + 4)) (scr (j + 5))
  refine pw_callV (As := [.int _, .int _, .int _, .int _, .int _]) h d_L_law_386 mf_X7_rises mi_X7_rises ml_RL_40 ⟨by decide, hk, hn⟩ (JJ7 hJ) rfl rfl (Nat.le_of_ble_eq_true rfl) trivial c1 ?_
  intro r sh1 I1 L1 R1 hp
  obtain ⟨e1, x, er, P2, c2, w2⟩ := w1 _ _ _ _ _ hp
  subst er; have e1 := e1.symm; subst e1
  refine ⟨rfl, ?_⟩
  refine pw_aload_n h 1 d_L_law_389 rfl ?_
  refine law_arg 1 h hs hL d_L_law_390 d_L_law_391 d_L_law_392 (by decide) d_L_law_393 d_L_law_394 (by omega) ?_
  refine law_arg 2 h hs hL d_L_law_395 d_L_law_396 d_L_law_397 (by decide) d_L_law_398 d_L_law_399 (by omega) ?_
  refine law_arg 3 h hs hL d_L_law_400 d_L_law_401 d_L_law_402 (by decide) d_L_law_403 d_L_law_404 (by omega) ?_
  refine law_arg 4 h hs hL d_L_law_405 d_L_law_406 d_L_law_407 (by decide) d_L_law_408 d_L_law_409 (by omega) ?_
  refine law_arg 5 h hs hL d_L_law_410 d_L_law_411 d_L_law_412 (by decide) d_L_law_413 d_L_law_414 (by omega) ?_
  refine pw_callV (As := [.int _, .int _, .int _, .int _, .int _]) h d_L_law_415 mf_X8_rises mi_X8_rises ml_RL_44 ⟨by decide, hk, hn⟩ (JJ8 hJ) rfl rfl (Nat.le_of_ble_eq_true rfl) trivial c2 ?_
  intro r2 sh2 I2 L2 R2 hp2
  obtain ⟨e2, er, hJ2⟩ := w2 _ _ _ _ _ hp2
  subst er; have e2 := e2.symm; subst e2
  refine ⟨rfl, ?_⟩
  exact pw_icmp_eq 1261 h d_L_law_418 (by decide) (fun _ => kk _ _ _ hJ2) (fun q => absurd rfl q)
theorem law_7 (h : PXok X RL cL_law 13 kc ks) (hs : PXs X b LL scr) (hL : LL ≤ 3072) (hj : j + 6 ≤ LL) (hk : k ≤ kc) (hn : n ≤ ks) (hJ : JJ sh I L R) (kk : ∀ (I2 : IM) (L2 : LM) (R2 : RM), JJ sh I2 L2 R2 → PW X 1261 (lwL j) [] sh I2 L2 R2 k n) : PW X 423 (lwL j) [] sh I L R k n := by
  refine pw_aload_n h 2 d_L_law_423 rfl ?_
  refine law_arg 1 h hs hL d_L_law_424 d_L_law_425 d_L_law_426 (by decide) d_L_law_427 d_L_law_428 (by omega) ?_
  refine pw_i2l h d_L_law_429 ?_
  refine pw_bipush (x := 32) h d_L_law_430 (by decide) ?_
  refine pw_lshl h d_L_law_432 ?_
  refine law_arg 2 h hs hL d_L_law_433 d_L_law_434 d_L_law_435 (by decide) d_L_law_436 d_L_law_437 (by omega) ?_
  refine pw_i2l h d_L_law_438 ?_
  refine pw_ldc2 h d_L_law_439 ck_RL_45 ?_
  refine pw_land h d_L_law_442 ?_
  refine pw_lor h d_L_law_443 ?_
  refine law_arg 3 h hs hL d_L_law_444 d_L_law_445 d_L_law_446 (by decide) d_L_law_447 d_L_law_448 (by omega) ?_
  obtain ⟨P1, c1, w1⟩ := j_type hJ _ (scr (j + 3))
  refine pw_callV (As := [.long _, .int _]) h d_L_law_449 mf_X7_type mi_X7_type ml_RL_47 ⟨by decide, hk, hn⟩ (JJ7 hJ) rfl rfl (Nat.le_of_ble_eq_true rfl) trivial c1 ?_
  intro r sh1 I1 L1 R1 hp
  obtain ⟨e1, x, er, P2, c2, w2⟩ := w1 _ _ _ _ _ hp
  subst er; have e1 := e1.symm; subst e1
  refine ⟨rfl, ?_⟩
  refine pw_aload_n h 1 d_L_law_452 rfl ?_
  refine law_arg 1 h hs hL d_L_law_453 d_L_law_454 d_L_law_455 (by decide) d_L_law_456 d_L_law_457 (by omega) ?_
  refine pw_i2l h d_L_law_458 ?_
  refine pw_bipush (x := 32) h d_L_law_459 (by decide) ?_
  refine pw_lshl h d_L_law_461 ?_
  refine law_arg 2 h hs hL d_L_law_462 d_L_law_463 d_L_law_464 (by decide) d_L_law_465 d_L_law_466 (by omega) ?_
  refine pw_i2l h d_L_law_467 ?_
  refine pw_ldc2 h d_L_law_468 ck_RL_45 ?_
  refine pw_land h d_L_law_471 ?_
  refine pw_lor h d_L_law_472 ?_
  refine law_arg 3 h hs hL d_L_law_473 d_L_law_474 d_L_law_475 (by decide) d_L_law_476 d_L_law_477 (by omega) ?_
  refine pw_callV (As := [.long _, .int _]) h d_L_law_478 mf_X8_type mi_X8_type ml_RL_51 ⟨by decide, hk, hn⟩ (JJ8 hJ) rfl rfl (Nat.le_of_ble_eq_true rfl) trivial c2 ?_
  intro r2 sh2 I2 L2 R2 hp2
  obtain ⟨e2, er, hJ2⟩ := w2 _ _ _ _ _ hp2
  subst er; have e2 := e2.symm; subst e2
  refine ⟨rfl, ?_⟩
  exact pw_icmp_eq 1261 h d_L_law_481 (by decide) (fun _ => kk _ _ _ hJ2) (fun q => absurd rfl q)
theorem law_8 (h : PXok X RL cL_law 13 kc ks) (hs : PXs X b LL scr) (hL : LL ≤ 3072) (hj : j + 6 ≤ LL) (hk : k ≤ kc) (hn : n ≤ ks) (hJ : JJ sh I L R) (kk : ∀ (I2 : IM) (L2 : LM) (R2 : RM), JJ sh I2 L2 R2 → PW X 1261 (lwL j) [] sh I2 L2 R2 k n) : PW X 486 (lwL j) [] sh I L R k n := by
  refine pw_aload_n h 2 d_L_law_486 rfl ?_
  obtain ⟨P1, c1, w1⟩ := j_read hJ 
  refine pw_callV (As := []) h d_L_law_487 mf_X7_read mi_X7_read ml_RL_52 ⟨by decide, hk, hn⟩ (JJ7 hJ) rfl rfl (Nat.le_of_ble_eq_true rfl) trivial c1 ?_
  intro r sh1 I1 L1 R1 hp
  obtain ⟨e1, x, er, P2, c2, w2⟩ := w1 _ _ _ _ _ hp
  subst er; have e1 := e1.symm; subst e1
  refine ⟨rfl, ?_⟩
  refine pw_aload_n h 1 d_L_law_490 rfl ?_
  refine pw_callV (As := []) h d_L_law_491 mf_X8_read mi_X8_read ml_RL_56 ⟨by decide, hk, hn⟩ (JJ8 hJ) rfl rfl (Nat.le_of_ble_eq_true rfl) trivial c2 ?_
  intro r2 sh2 I2 L2 R2 hp2
  obtain ⟨e2, er, hJ2⟩ := w2 _ _ _ _ _ hp2
  subst er; have e2 := e2.symm; subst e2
  refine ⟨rfl, ?_⟩
  exact pw_icmp_eq 1261 h d_L_law_494 (by decide) (fun _ => kk _ _ _ hJ2) (fun q => absurd rfl q)
theorem law_9 (h : PXok X RL cL_law 13 kc ks) (hs : PXs X b LL scr) (hL : LL ≤ 3072) (hj : j + 6 ≤ LL) (hk : k ≤ kc) (hn : n ≤ ks) (hJ : JJ sh I L R) (kk : ∀ (I2 : IM) (L2 : LM) (R2 : RM), JJ sh I2 L2 R2 → PW X 1261 (lwL j) [] sh I2 L2 R2 k n) : PW X 499 (lwL j) [] sh I L R k n := by
  refine pw_aload_n h 2 d_L_law_499 rfl ?_
  refine law_arg 1 h hs hL d_L_law_500 d_L_law_501 d_L_law_502 (by decide) d_L_law_503 d_L_law_504 (by omega) ?_
  refine law_arg 2 h hs hL d_L_law_505 d_L_law_506 d_L_law_507 (by decide) d_L_law_508 d_L_law_509 (by omega) ?_
  obtain ⟨P1, c1, w1⟩ := j_told hJ (scr (j + 1)) (scr (j + 2))
  refine pw_callV (As := [.int _, .int _]) h d_L_law_510 mf_X7_told mi_X7_told ml_RL_57 ⟨by decide, hk, hn⟩ (JJ7 hJ) rfl rfl (Nat.le_of_ble_eq_true rfl) trivial c1 ?_
  intro r sh1 I1 L1 R1 hp
  obtain ⟨e1, x, er, P2, c2, w2⟩ := w1 _ _ _ _ _ hp
  subst er; have e1 := e1.symm; subst e1
  refine ⟨rfl, ?_⟩
  refine pw_aload_n h 1 d_L_law_513 rfl ?_
  refine law_arg 1 h hs hL d_L_law_514 d_L_law_515 d_L_law_516 (by decide) d_L_law_517 d_L_law_518 (by omega) ?_
  refine law_arg 2 h hs hL d_L_law_519 d_L_law_520 d_L_law_521 (by decide) d_L_law_522 d_L_law_523 (by omega) ?_
  refine pw_callV (As := [.int _, .int _]) h d_L_law_524 mf_X8_told mi_X8_told ml_RL_60 ⟨by decide, hk, hn⟩ (JJ8 hJ) rfl rfl (Nat.le_of_ble_eq_true rfl) trivial c2 ?_
  intro r2 sh2 I2 L2 R2 hp2
  obtain ⟨e2, er, hJ2⟩ := w2 _ _ _ _ _ hp2
  subst er; have e2 := e2.symm; subst e2
  refine ⟨rfl, ?_⟩
  exact pw_icmp_eq 1261 h d_L_law_527 (by decide) (fun _ => kk _ _ _ hJ2) (fun q => absurd rfl q)
theorem law_10 (h : PXok X RL cL_law 13 kc ks) (hs : PXs X b LL scr) (hL : LL ≤ 3072) (hj : j + 6 ≤ LL) (hk : k ≤ kc) (hn : n ≤ ks) (hJ : JJ sh I L R) (kk : ∀ (I2 : IM) (L2 : LM) (R2 : RM), JJ sh I2 L2 R2 → PW X 1261 (lwL j) [] sh I2 L2 R2 k n) : PW X 532 (lwL j) [] sh I L R k n := by
  refine pw_aload_n h 2 d_L_law_532 rfl ?_
  refine law_arg 1 h hs hL d_L_law_533 d_L_law_534 d_L_law_535 (by decide) d_L_law_536 d_L_law_537 (by omega) ?_
  obtain ⟨P1, c1, w1⟩ := j_count hJ (scr (j + 1))
  refine pw_callV (As := [.int _]) h d_L_law_538 mf_X7_count mi_X7_count ml_RL_61 ⟨by decide, hk, hn⟩ (JJ7 hJ) rfl rfl (Nat.le_of_ble_eq_true rfl) trivial c1 ?_
  intro r sh1 I1 L1 R1 hp
  obtain ⟨e1, x, er, P2, c2, w2⟩ := w1 _ _ _ _ _ hp
  subst er; have e1 := e1.symm; subst e1
  refine ⟨rfl, ?_⟩
  refine pw_aload_n h 1 d_L_law_541 rfl ?_
  refine law_arg 1 h hs hL d_L_law_542 d_L_law_543 d_L_law_544 (by decide) d_L_law_545 d_L_law_546 (by omega) ?_
  refine pw_callV (As := [.int _]) h d_L_law_547 mf_X8_count mi_X8_count ml_RL_64 ⟨by decide, hk, hn⟩ (JJ8 hJ) rfl rfl (Nat.le_of_ble_eq_true rfl) trivial c2 ?_
  intro r2 sh2 I2 L2 R2 hp2
  obtain ⟨e2, er, hJ2⟩ := w2 _ _ _ _ _ hp2
  subst er; have e2 := e2.symm; subst e2
  refine ⟨rfl, ?_⟩
  exact pw_icmp_eq 1261 h d_L_law_550 (by decide) (fun _ => kk _ _ _ hJ2) (fun q => absurd rfl q)
theorem law_11 (h : PXok X RL cL_law 13 kc ks) (hs : PXs X b LL scr) (hL : LL ≤ 3072) (hj : j + 6 ≤ LL) (hk : k ≤ kc) (hn : n ≤ ks) (hJ : JJ sh I L R) (kk : ∀ (I2 : IM) (L2 : LM) (R2 : RM), JJ sh I2 L2 R2 → PW X 1261 (lwL j) [] sh I2 L2 R2 k n) : PW X 555 (lwL j) [] sh I L R k n := by
  refine pw_aload_n h 2 d_L_law_555 rfl ?_
  refine law_arg 1 h hs hL d_L_law_556 d_L_law_557 d_L_law_558 (by decide) d_L_law_559 d_L_law_560 (by omega) ?_
  refine law_arg 2 h hs hL d_L_law_561 d_L_law_562 d_L_law_563 (by decide) d_L_law_564 d_L_law_565 (by omega) ?_
  refine law_arg 3 h hs hL d_L_law_566 d_L_law_567 d_L_law_568 (by decide) d_L_law_569 d_L_law_570 (by omega) ?_
  obtain ⟨P1, c1, w1⟩ := j_load hJ (scr (j + 1)) (scr (j + 2)) (scr (j + 3))
  refine pw_callV (As := [.int _, .int _, .int _]) h d_L_law_571 mf_X7_load mi_X7_load ml_RL_65 ⟨by decide, hk, hn⟩ (JJ7 hJ) rfl rfl (Nat.le_of_ble_eq_true rfl) trivial c1 ?_
  intro r sh1 I1 L1 R1 hp
  obtain ⟨e1, x, er, P2, c2, w2⟩ := w1 _ _ _ _ _ hp
  subst er; have e1 := e1.symm; subst e1
  refine ⟨rfl, ?_⟩
  refine pw_aload_n h 1 d_L_law_574 rfl ?_
  refine law_arg 1 h hs hL d_L_law_575 d_L_law_576 d_L_law_577 (by decide) d_L_law_578 d_L_law_579 (by omega) ?_
  refine law_arg 2 h hs hL d_L_law_580 d_L_law_581 d_L_law_582 (by decide) d_L_law_583 d_L_law_584 (by omega) ?_
  refine law_arg 3 h hs hL d_L_law_585 d_L_law_586 d_L_law_587 (by decide) d_L_law_588 d_L_law_589 (by omega) ?_
  refine pw_callV (As := [.int _, .int _, .int _]) h d_L_law_590 mf_X8_load mi_X8_load ml_RL_69 ⟨by decide, hk, hn⟩ (JJ8 hJ) rfl rfl (Nat.le_of_ble_eq_true rfl) trivial c2 ?_
  intro r2 sh2 I2 L2 R2 hp2
  obtain ⟨e2, er, hJ2⟩ := w2 _ _ _ _ _ hp2
  subst er; have e2 := e2.symm; subst e2
  refine ⟨rfl, ?_⟩
  refine pw_lcmp h d_L_law_593 ?_
  exact pw_if_eq 1261 h d_L_law_594 (by decide) (fun _ => kk _ _ _ hJ2) (fun q => absurd (lc_eq.mpr rfl) q)
theorem law_12 (h : PXok X RL cL_law 13 kc ks) (hs : PXs X b LL scr) (hL : LL ≤ 3072) (hj : j + 6 ≤ LL) (hk : k ≤ kc) (hn : n ≤ ks) (hJ : JJ sh I L R) (kk : ∀ (I2 : IM) (L2 : LM) (R2 : RM), JJ sh I2 L2 R2 → PW X 1261 (lwL j) [] sh I2 L2 R2 k n) : PW X 599 (lwL j) [] sh I L R k n := by
  refine pw_aload_n h 2 d_L_law_599 rfl ?_
  refine law_arg 1 h hs hL d_L_law_600 d_L_law_601 d_L_law_602 (by decide) d_L_law_603 d_L_law_604 (by omega) ?_
  obtain ⟨P1, c1, w1⟩ := j_lifted hJ (scr (j + 1))
  refine pw_callV (As := [.int _]) h d_L_law_605 mf_X7_lifted mi_X7_lifted ml_RL_70 ⟨by decide, hk, hn⟩ (JJ7 hJ) rfl rfl (Nat.le_of_ble_eq_true rfl) trivial c1 ?_
  intro r sh1 I1 L1 R1 hp
  obtain ⟨e1, x, er, P2, c2, w2⟩ := w1 _ _ _ _ _ hp
  subst er; have e1 := e1.symm; subst e1
  refine ⟨rfl, ?_⟩
  refine pw_aload_n h 1 d_L_law_608 rfl ?_
  refine law_arg 1 h hs hL d_L_law_609 d_L_law_610 d_L_law_611 (by decide) d_L_law_612 d_L_law_613 (by omega) ?_
  refine pw_callV (As := [.int _]) h d_L_law_614 mf_X8_lifted mi_X8_lifted ml_RL_73 ⟨by decide, hk, hn⟩ (JJ8 hJ) rfl rfl (Nat.le_of_ble_eq_true rfl) trivial c2 ?_
  intro r2 sh2 I2 L2 R2 hp2
  obtain ⟨e2, er, hJ2⟩ := w2 _ _ _ _ _ hp2
  subst er; have e2 := e2.symm; subst e2
  refine ⟨rfl, ?_⟩
  exact pw_icmp_eq 1261 h d_L_law_617 (by decide) (fun _ => kk _ _ _ hJ2) (fun q => absurd rfl q)
theorem law_13 (h : PXok X RL cL_law 13 kc ks) (hs : PXs X b LL scr) (hL : LL ≤ 3072) (hj : j + 6 ≤ LL) (hk : k ≤ kc) (hn : n ≤ ks) (hJ : JJ sh I L R) (kk : ∀ (I2 : IM) (L2 : LM) (R2 : RM), JJ sh I2 L2 R2 → PW X 1261 (lwL j) [] sh I2 L2 R2 k n) : PW X 622 (lwL j) [] sh I L R k n := by
  refine pw_aload_n h 2 d_L_law_622 rfl ?_
  refine law_arg 1 h hs hL d_L_law_623 d_L_law_624 d_L_law_625 (by decide) d_L_law_626 d_L_law_627 (by omega) ?_
  refine law_arg 2 h hs hL d_L_law_628 d_L_law_629 d_L_law_630 (by decide) d_L_law_631 d_L_law_632 (by omega) ?_
  refine law_arg 3 h hs hL d_L_law_633 d_L_law_634 d_L_law_635 (by decide) d_L_law_636 d_L_law_637 (by omega) ?_
  obtain ⟨P1, c1, w1⟩ := j_high hJ (scr (j + 1)) (scr (j + 2)) (scr (j + 3))
  refine pw_callV (As := [.int _, .int _, .int _]) h d_L_law_638 mf_X7_high mi_X7_high ml_RL_74 ⟨by decide, hk, hn⟩ (JJ7 hJ) rfl rfl (Nat.le_of_ble_eq_true rfl) trivial c1 ?_
  intro r sh1 I1 L1 R1 hp
  obtain ⟨e1, x, er, P2, c2, w2⟩ := w1 _ _ _ _ _ hp
  subst er; have e1 := e1.symm; subst e1
  refine ⟨rfl, ?_⟩
  refine pw_aload_n h 1 d_L_law_641 rfl ?_
  refine law_arg 1 h hs hL d_L_law_642 d_L_law_643 d_L_law_644 (by decide) d_L_law_645 d_L_law_646 (by omega) ?_
  refine law_arg 2 h hs hL d_L_law_647 d_L_law_648 d_L_law_649 (by decide) d_L_law_650 d_L_law_651 (by omega) ?_
  refine law_arg 3 h hs hL d_L_law_652 d_L_law_653 d_L_law_654 (by decide) d_L_law_655 d_L_law_656 (by omega) ?_
  refine pw_callV (As := [.int _, .int _, .int _]) h d_L_law_657 mf_X8_high mi_X8_high ml_RL_77 ⟨by decide, hk, hn⟩ (JJ8 hJ) rfl rfl (Nat.le_of_ble_eq_true rfl) trivial c2 ?_
  intro r2 sh2 I2 L2 R2 hp2
  obtain ⟨e2, er, hJ2⟩ := w2 _ _ _ _ _ hp2
  subst er; have e2 := e2.symm; subst e2
  refine ⟨rfl, ?_⟩
  refine pw_lcmp h d_L_law_660 ?_
  exact pw_if_eq 1261 h d_L_law_661 (by decide) (fun _ => kk _ _ _ hJ2) (fun q => absurd (lc_eq.mpr rfl) q)
theorem law_14 (h : PXok X RL cL_law 13 kc ks) (hs : PXs X b LL scr) (hL : LL ≤ 3072) (hj : j + 6 ≤ LL) (hk : k ≤ kc) (hn : n ≤ ks) (hJ : JJ sh I L R) (kk : ∀ (I2 : IM) (L2 : LM) (R2 : RM), JJ sh I2 L2 R2 → PW X 1261 (lwL j) [] sh I2 L2 R2 k n) : PW X 666 (lwL j) [] sh I L R k n := by
  refine pw_aload_n h 2 d_L_law_666 rfl ?_
  refine law_arg 1 h hs hL d_L_law_667 d_L_law_668 d_L_law_669 (by decide) d_L_law_670 d_L_law_671 (by omega) ?_
  refine law_arg 2 h hs hL d_L_law_672 d_L_law_673 d_L_law_674 (by decide) d_L_law_675 d_L_law_676 (by omega) ?_
  refine law_arg 3 h hs hL d_L_law_677 d_L_law_678 d_L_law_679 (by decide) d_L_law_680 d_L_law_681 (by omega) ?_
  obtain ⟨P1, c1, w1⟩ := j_through hJ (scr (j + 1)) (scr (j + 2)) (scr (j + 3))
  refine pw_callV (As := [.int _, .int _, .int _]) h d_L_law_682 mf_X7_through mi_X7_through ml_RL_78 ⟨by decide, hk, hn⟩ (JJ7 hJ) rfl rfl (Nat.le_of_ble_eq_true rfl) trivial c1 ?_
  intro r sh1 I1 L1 R1 hp
  obtain ⟨e1, x, er, P2, c2, w2⟩ := w1 _ _ _ _ _ hp
  subst er; have e1 := e1.symm; subst e1
  refine ⟨rfl, ?_⟩
  refine pw_aload_n h 1 d_L_law_685 rfl ?_
  refine law_arg 1 h hs hL d_L_law_686 d_L_law_687 d_L_law_688 (by decide) d_L_law_689 d_L_law_690 (by omega) ?_
  refine law_arg 2 h hs hL d_L_law_691 d_L_law_692 d_L_law_693 (by decide) d_L_law_694 d_L_law_695 (by omega) ?_
  refine law_arg 3 h hs hL d_L_law_696 d_L_law_697 d_L_law_698 (by decide) d_L_law_699 d_L_law_700 (by omega) ?_
  refine pw_callV (As := [.int _, .int _, .int _]) h d_L_law_701 mf_X8_through mi_X8_through ml_RL_81 ⟨by decide, hk, hn⟩ (JJ8 hJ) rfl rfl (Nat.le_of_ble_eq_true rfl) trivial c2 ?_
  intro r2 sh2 I2 L2 R2 hp2
  obtain ⟨e2, er, hJ2⟩ := w2 _ _ _ _ _ hp2
  subst er; have e2 := e2.symm; subst e2
  refine ⟨rfl, ?_⟩
  refine pw_lcmp h d_L_law_704 ?_
  exact pw_if_eq 1261 h d_L_law_705 (by decide) (fun _ => kk _ _ _ hJ2) (fun q => absurd (lc_eq.mpr rfl) q)
theorem law_15 (h : PXok X RL cL_law 13 kc ks) (hs : PXs X b LL scr) (hL : LL ≤ 3072) (hj : j + 6 ≤ LL) (hk : k ≤ kc) (hn : n ≤ ks) (hJ : JJ sh I L R) (kk : ∀ (I2 : IM) (L2 : LM) (R2 : RM), JJ sh I2 L2 R2 → PW X 1261 (lwL j) [] sh I2 L2 R2 k n) : PW X 710 (lwL j) [] sh I L R k n := by
  refine pw_aload_n h 2 d_L_law_710 rfl ?_
  refine law_arg 1 h hs hL d_L_law_711 d_L_law_712 d_L_law_713 (by decide) d_L_law_714 d_L_law_715 (by omega) ?_
  refine law_arg 2 h hs hL d_L_law_716 d_L_law_717 d_L_law_718 (by decide) d_L_law_719 d_L_law_720 (by omega) ?_
  refine law_arg 3 h hs hL d_L_law_721 d_L_law_722 d_L_law_723 (by decide) d_L_law_724 d_L_law_725 (by omega) ?_
  obtain ⟨P1, c1, w1⟩ := j_table hJ (scr (j + 1)) (scr (j + 2)) (scr (j + 3))
  refine pw_callV (As := [.int _, .int _, .int _]) h d_L_law_726 mf_X7_table mi_X7_table ml_RL_82 ⟨by decide, hk, hn⟩ (JJ7 hJ) rfl rfl (Nat.le_of_ble_eq_true rfl) trivial c1 ?_
  intro r sh1 I1 L1 R1 hp
  obtain ⟨e1, x, er, P2, c2, w2⟩ := w1 _ _ _ _ _ hp
  subst er; have e1 := e1.symm; subst e1
  refine ⟨rfl, ?_⟩
  refine pw_aload_n h 1 d_L_law_729 rfl ?_
  refine law_arg 1 h hs hL d_L_law_730 d_L_law_731 d_L_law_732 (by decide) d_L_law_733 d_L_law_734 (by omega) ?_
  refine law_arg 2 h hs hL d_L_law_735 d_L_law_736 d_L_law_737 (by decide) d_L_law_738 d_L_law_739 (by omega) ?_
  refine law_arg 3 h hs hL d_L_law_740 d_L_law_741 d_L_law_742 (by decide) d_L_law_743 d_L_law_744 (by omega) ?_
  refine pw_callV (As := [.int _, .int _, .int _]) h d_L_law_745 mf_X8_table mi_X8_table ml_RL_85 ⟨by decide, hk, hn⟩ (JJ8 hJ) rfl rfl (Nat.le_of_ble_eq_true rfl) trivial c2 ?_
  intro r2 sh2 I2 L2 R2 hp2
  obtain ⟨e2, er, hJ2⟩ := w2 _ _ _ _ _ hp2
  subst er; have e2 := e2.symm; subst e2
  refine ⟨rfl, ?_⟩
  refine pw_lcmp h d_L_law_748 ?_
  exact pw_if_eq 1261 h d_L_law_749 (by decide) (fun _ => kk _ _ _ hJ2) (fun q => absurd (lc_eq.mpr rfl) q)
theorem law_16 (h : PXok X RL cL_law 13 kc ks) (hs : PXs X b LL scr) (hL : LL ≤ 3072) (hj : j + 6 ≤ LL) (hk : k ≤ kc) (hn : n ≤ ks) (hJ : JJ sh I L R) (kk : ∀ (I2 : IM) (L2 : LM) (R2 : RM), JJ sh I2 L2 R2 → PW X 1261 (lwL j) [] sh I2 L2 R2 k n) : PW X 754 (lwL j) [] sh I L R k n := by
  refine pw_aload_n h 2 d_L_law_754 rfl ?_
  refine law_arg 1 h hs hL d_L_law_755 d_L_law_756 d_L_law_757 (by decide) d_L_law_758 d_L_law_759 (by omega) ?_
  refine law_arg 2 h hs hL d_L_law_760 d_L_law_761 d_L_law_762 (by decide) d_L_law_763 d_L_law_764 (by omega) ?_
  refine law_arg 3 h hs hL d_L_law_765 d_L_law_766 d_L_law_767 (by decide) d_L_law_768 d_L_law_769 (by omega) ?_
  refine law_arg 4 h hs hL d_L_law_770 d_L_law_771 d_L_law_772 (by decide) d_L_law_773 d_L_law_774 (by omega) ?_
  obtain ⟨P1, c1, w1⟩ := j_coupling hJ (scr (j + 1)) (scr (j + 2)) (scr (j + 3)) (scr (j + 4))
  refine pw_callV (As := [.int _, .int _, .int _, .int _]) h d_L_law_775 mf_X7_coupling mi_X7_coupling ml_RL_86 ⟨by decide, hk, hn⟩ (JJ7 hJ) rfl rfl (Nat.le_of_ble_eq_true rfl) trivial c1 ?_
  intro r sh1 I1 L1 R1 hp
  obtain ⟨e1, x, er, P2, c2, w2⟩ := w1 _ _ _ _ _ hp
  subst er; have e1 := e1.symm; subst e1
  refine ⟨rfl, ?_⟩
  refine pw_aload_n h 1 d_L_law_778 rfl ?_
  refine law_arg 1 h hs hL d_L_law_779 d_L_law_780 d_L_law_781 (by decide) d_L_law_782 d_L_law_783 (by omega) ?_
  refine law_arg 2 h hs hL d_L_law_784 d_L_law_785 d_L_law_786 (by decide) d_L_law_787 d_L_law_788 (by omega) ?_
  refine law_arg 3 h hs hL d_L_law_789 d_L_law_790 d_L_law_791 (by decide) d_L_law_792 d_L_law_793 (by omega) ?_
  refine law_arg 4 h hs hL d_L_law_794 d_L_law_795 d_L_law_796 (by decide) d_L_law_797 d_L_law_798 (by omega) ?_
  refine pw_callV (As := [.int _, .int _, .int _, .int _]) h d_L_law_799 mf_X8_coupling mi_X8_coupling ml_RL_90 ⟨by decide, hk, hn⟩ (JJ8 hJ) rfl rfl (Nat.le_of_ble_eq_true rfl) trivial c2 ?_
  intro r2 sh2 I2 L2 R2 hp2
  obtain ⟨e2, er, hJ2⟩ := w2 _ _ _ _ _ hp2
  subst er; have e2 := e2.symm; subst e2
  refine ⟨rfl, ?_⟩
  refine pw_lcmp h d_L_law_802 ?_
  exact pw_if_eq 1261 h d_L_law_803 (by decide) (fun _ => kk _ _ _ hJ2) (fun q => absurd (lc_eq.mpr rfl) q)
theorem law_17 (h : PXok X RL cL_law 13 kc ks) (hs : PXs X b LL scr) (hL : LL ≤ 3072) (hj : j + 6 ≤ LL) (hk : k ≤ kc) (hn : n ≤ ks) (hJ : JJ sh I L R) (kk : ∀ (I2 : IM) (L2 : LM) (R2 : RM), JJ sh I2 L2 R2 → PW X 1261 (lwL j) [] sh I2 L2 R2 k n) : PW X 808 (lwL j) [] sh I L R k n := by
  refine pw_aload_n h 2 d_L_law_808 rfl ?_
  refine law_arg 1 h hs hL d_L_law_809 d_L_law_810 d_L_law_811 (by decide) d_L_law_812 d_L_law_813 (by omega) ?_
  refine law_arg 2 h hs hL d_L_law_814 d_L_law_815 d_L_law_816 (by decide) d_L_law_817 d_L_law_818 (by omega) ?_
  refine law_arg 3 h hs hL d_L_law_819 d_L_law_820 d_L_law_821 (by decide) d_L_law_822 d_L_law_823 (by omega) ?_
  refine law_arg 4 h hs hL d_L_law_824 d_L_law_825 d_L_law_826 (by decide) d_L_law_827 d_L_law_828 (by omega) ?_
  obtain ⟨P1, c1, w1⟩ := j_jack hJ (scr (j + 1)) (scr (j + 2)) (scr (j + 3)) (scr (j + 4))
  refine pw_callV (As := [.int _, .int _, .int _, .int _]) h d_L_law_829 mf_X7_jack mi_X7_jack ml_RL_91 ⟨by decide, hk, hn⟩ (JJ7 hJ) rfl rfl (Nat.le_of_ble_eq_true rfl) trivial c1 ?_
  intro r sh1 I1 L1 R1 hp
  obtain ⟨e1, x, er, P2, c2, w2⟩ := w1 _ _ _ _ _ hp
  subst er; have e1 := e1.symm; subst e1
  refine ⟨rfl, ?_⟩
  refine pw_aload_n h 1 d_L_law_832 rfl ?_
  refine law_arg 1 h hs hL d_L_law_833 d_L_law_834 d_L_law_835 (by decide) d_L_law_836 d_L_law_837 (by omega) ?_
  refine law_arg 2 h hs hL d_L_law_838 d_L_law_839 d_L_law_840 (by decide) d_L_law_841 d_L_law_842 (by omega) ?_
  refine law_arg 3 h hs hL d_L_law_843 d_L_law_844 d_L_law_845 (by decide) d_L_law_846 d_L_law_847 (by omega) ?_
  refine law_arg 4 h hs hL d_L_law_848 d_L_law_849 d_L_law_850 (by decide) d_L_law_851 d_L_law_852 (by omega) ?_
  refine pw_callV (As := [.int _, .int _, .int _, .int _]) h d_L_law_853 mf_X8_jack mi_X8_jack ml_RL_94 ⟨by decide, hk, hn⟩ (JJ8 hJ) rfl rfl (Nat.le_of_ble_eq_true rfl) trivial c2 ?_
  intro r2 sh2 I2 L2 R2 hp2
  obtain ⟨e2, er, hJ2⟩ := w2 _ _ _ _ _ hp2
  subst er; have e2 := e2.symm; subst e2
  refine ⟨rfl, ?_⟩
  refine pw_lcmp h d_L_law_856 ?_
  exact pw_if_eq 1261 h d_L_law_857 (by decide) (fun _ => kk _ _ _ hJ2) (fun q => absurd (lc_eq.mpr rfl) q)
theorem law_18 (h : PXok X RL cL_law 13 kc ks) (hs : PXs X b LL scr) (hL : LL ≤ 3072) (hj : j + 6 ≤ LL) (hk : k ≤ kc) (hn : n ≤ ks) (hJ : JJ sh I L R) (kk : ∀ (I2 : IM) (L2 : LM) (R2 : RM), JJ sh I2 L2 R2 → PW X 1261 (lwL j) [] sh I2 L2 R2 k n) : PW X 862 (lwL j) [] sh I L R k n := by
  refine pw_aload_n h 2 d_L_law_862 rfl ?_
  refine law_arg 1 h hs hL d_L_law_863 d_L_law_864 d_L_law_865 (by decide) d_L_law_866 d_L_law_867 (by omega) ?_
  refine law_arg 2 h hs hL d_L_law_868 d_L_law_869 d_L_law_870 (by decide) d_L_law_871 d_L_law_872 (by omega) ?_
  obtain ⟨P1, c1, w1⟩ := j_bounds hJ (scr (j + 1)) (scr (j + 2))
  refine pw_callV (As := [.int _, .int _]) h d_L_law_873 mf_X7_bounds mi_X7_bounds ml_RL_95 ⟨by decide, hk, hn⟩ (JJ7 hJ) rfl rfl (Nat.le_of_ble_eq_true rfl) trivial c1 ?_
  intro r sh1 I1 L1 R1 hp
  obtain ⟨e1, x, er, P2, c2, w2⟩ := w1 _ _ _ _ _ hp
  subst er; have e1 := e1.symm; subst e1
  refine ⟨rfl, ?_⟩
  refine pw_aload_n h 1 d_L_law_876 rfl ?_
  refine law_arg 1 h hs hL d_L_law_877 d_L_law_878 d_L_law_879 (by decide) d_L_law_880 d_L_law_881 (by omega) ?_
  refine law_arg 2 h hs hL d_L_law_882 d_L_law_883 d_L_law_884 (by decide) d_L_law_885 d_L_law_886 (by omega) ?_
  refine pw_callV (As := [.int _, .int _]) h d_L_law_887 mf_X8_bounds mi_X8_bounds ml_RL_98 ⟨by decide, hk, hn⟩ (JJ8 hJ) rfl rfl (Nat.le_of_ble_eq_true rfl) trivial c2 ?_
  intro r2 sh2 I2 L2 R2 hp2
  obtain ⟨e2, er, hJ2⟩ := w2 _ _ _ _ _ hp2
  subst er; have e2 := e2.symm; subst e2
  refine ⟨rfl, ?_⟩
  exact pw_icmp_eq 1261 h d_L_law_890 (by decide) (fun _ => kk _ _ _ hJ2) (fun q => absurd rfl q)
theorem law_19 (h : PXok X RL cL_law 13 kc ks) (hs : PXs X b LL scr) (hL : LL ≤ 3072) (hj : j + 6 ≤ LL) (hk : k ≤ kc) (hn : n ≤ ks) (hJ : JJ sh I L R) (kk : ∀ (I2 : IM) (L2 : LM) (R2 : RM), JJ sh I2 L2 R2 → PW X 1261 (lwL j) [] sh I2 L2 R2 k n) : PW X 895 (lwL j) [] sh I L R k n := by
  refine pw_aload_n h 2 d_L_law_895 rfl ?_
  refine law_arg 1 h hs hL d_L_law_896 d_L_law_897 d_L_law_898 (by decide) d_L_law_899 d_L_law_900 (by omega) ?_
  obtain ⟨P1, c1, w1⟩ := j_fits hJ (scr (j + 1))
  refine pw_callV (As := [.int _]) h d_L_law_901 mf_X7_fits mi_X7_fits ml_RL_99 ⟨by decide, hk, hn⟩ (JJ7 hJ) rfl rfl (Nat.le_of_ble_eq_true rfl) trivial c1 ?_
  intro r sh1 I1 L1 R1 hp
  obtain ⟨e1, x, er, P2, c2, w2⟩ := w1 _ _ _ _ _ hp
  subst er; have e1 := e1.symm; subst e1
  refine ⟨rfl, ?_⟩
  refine pw_aload_n h 1 d_L_law_904 rfl ?_
  refine law_arg 1 h hs hL d_L_law_905 d_L_law_906 d_L_law_907 (by decide) d_L_law_908 d_L_law_909 (by omega) ?_
  refine pw_callV (As := [.int _]) h d_L_law_910 mf_X8_fits mi_X8_fits ml_RL_102 ⟨by decide, hk, hn⟩ (JJ8 hJ) rfl rfl (Nat.le_of_ble_eq_true rfl) trivial c2 ?_
  intro r2 sh2 I2 L2 R2 hp2
  obtain ⟨e2, er, hJ2⟩ := w2 _ _ _ _ _ hp2
  subst er; have e2 := e2.symm; subst e2
  refine ⟨rfl, ?_⟩
  exact pw_icmp_eq 1261 h d_L_law_913 (by decide) (fun _ => kk _ _ _ hJ2) (fun q => absurd rfl q)
theorem law_20 (h : PXok X RL cL_law 13 kc ks) (hs : PXs X b LL scr) (hL : LL ≤ 3072) (hj : j + 6 ≤ LL) (hk : k ≤ kc) (hn : n ≤ ks) (hJ : JJ sh I L R) (kk : ∀ (I2 : IM) (L2 : LM) (R2 : RM), JJ sh I2 L2 R2 → PW X 1261 (lwL j) [] sh I2 L2 R2 k n) : PW X 918 (lwL j) [] sh I L R k n := by
  refine pw_aload_n h 2 d_L_law_918 rfl ?_
  refine law_arg 1 h hs hL d_L_law_919 d_L_law_920 d_L_law_921 (by decide) d_L_law_922 d_L_law_923 (by omega) ?_
  obtain ⟨P1, c1, w1⟩ := j_plan hJ (scr (j + 1))
  refine pw_callV (As := [.int _]) h d_L_law_924 mf_X7_plan mi_X7_plan ml_RL_103 ⟨by decide, hk, hn⟩ (JJ7 hJ) rfl rfl (Nat.le_of_ble_eq_true rfl) trivial c1 ?_
  intro r sh1 I1 L1 R1 hp
  obtain ⟨e1, x, er, P2, c2, w2⟩ := w1 _ _ _ _ _ hp
  subst er; have e1 := e1.symm; subst e1
  refine ⟨rfl, ?_⟩
  refine pw_aload_n h 1 d_L_law_927 rfl ?_
  refine law_arg 1 h hs hL d_L_law_928 d_L_law_929 d_L_law_930 (by decide) d_L_law_931 d_L_law_932 (by omega) ?_
  refine pw_callV (As := [.int _]) h d_L_law_933 mf_X8_plan mi_X8_plan ml_RL_106 ⟨by decide, hk, hn⟩ (JJ8 hJ) rfl rfl (Nat.le_of_ble_eq_true rfl) trivial c2 ?_
  intro r2 sh2 I2 L2 R2 hp2
  obtain ⟨e2, er, hJ2⟩ := w2 _ _ _ _ _ hp2
  subst er; have e2 := e2.symm; subst e2
  refine ⟨rfl, ?_⟩
  exact pw_icmp_eq 1261 h d_L_law_936 (by decide) (fun _ => kk _ _ _ hJ2) (fun q => absurd rfl q)
theorem law_21 (h : PXok X RL cL_law 13 kc ks) (hs : PXs X b LL scr) (hL : LL ≤ 3072) (hj : j + 6 ≤ LL) (hk : k ≤ kc) (hn : n ≤ ks) (hJ : JJ sh I L R) (kk : ∀ (I2 : IM) (L2 : LM) (R2 : RM), JJ sh I2 L2 R2 → PW X 1261 (lwL j) [] sh I2 L2 R2 k n) : PW X 941 (lwL j) [] sh I L R k n := by
  refine pw_aload_n h 2 d_L_law_941 rfl ?_
  refine law_arg 1 h hs hL d_L_law_942 d_L_law_943 d_L_law_944 (by decide) d_L_law_945 d_L_law_946 (by omega) ?_
  refine law_arg 2 h hs hL d_L_law_947 d_L_law_948 d_L_law_949 (by decide) d_L_law_950 d_L_law_951 (by omega) ?_
  obtain ⟨P1, c1, w1⟩ := j_move hJ (scr (j + 1)) (scr (j + 2))
  refine pw_callV (As := [.int _, .int _]) h d_L_law_952 mf_X7_move mi_X7_move ml_RL_107 ⟨by decide, hk, hn⟩ (JJ7 hJ) rfl rfl (Nat.le_of_ble_eq_true rfl) trivial c1 ?_
  intro r sh1 I1 L1 R1 hp
  obtain ⟨e1, x, er, P2, c2, w2⟩ := w1 _ _ _ _ _ hp
  subst er; have e1 := e1.symm; subst e1
  refine ⟨rfl, ?_⟩
  refine pw_aload_n h 1 d_L_law_955 rfl ?_
  refine law_arg 1 h hs hL d_L_law_956 d_L_law_957 d_L_law_958 (by decide) d_L_law_959 d_L_law_960 (by omega) ?_
  refine law_arg 2 h hs hL d_L_law_961 d_L_law_962 d_L_law_963 (by decide) d_L_law_964 d_L_law_965 (by omega) ?_
  refine pw_callV (As := [.int _, .int _]) h d_L_law_966 mf_X8_move mi_X8_move ml_RL_110 ⟨by decide, hk, hn⟩ (JJ8 hJ) rfl rfl (Nat.le_of_ble_eq_true rfl) trivial c2 ?_
  intro r2 sh2 I2 L2 R2 hp2
  obtain ⟨e2, er, hJ2⟩ := w2 _ _ _ _ _ hp2
  subst er; have e2 := e2.symm; subst e2
  refine ⟨rfl, ?_⟩
  exact pw_icmp_eq 1261 h d_L_law_969 (by decide) (fun _ => kk _ _ _ hJ2) (fun q => absurd rfl q)
theorem law_22 (h : PXok X RL cL_law 13 kc ks) (hs : PXs X b LL scr) (hL : LL ≤ 3072) (hj : j + 6 ≤ LL) (hk : k ≤ kc) (hn : n ≤ ks) (hJ : JJ sh I L R) (kk : ∀ (I2 : IM) (L2 : LM) (R2 : RM), JJ sh I2 L2 R2 → PW X 1261 (lwL j) [] sh I2 L2 R2 k n) : PW X 974 (lwL j) [] sh I L R k n := by
  refine pw_aload_n h 2 d_L_law_974 rfl ?_
  refine law_arg 1 h hs hL d_L_law_975 d_L_law_976 d_L_law_977 (by decide) d_L_law_978 d_L_law_979 (by omega) ?_
  refine law_arg 2 h hs hL d_L_law_980 d_L_law_981 d_L_law_982 (by decide) d_L_law_983 d_L_law_984 (by omega) ?_
  obtain ⟨P1, c1, w1⟩ := j_reading hJ (scr (j + 1)) (scr (j + 2))
  refine pw_callV (As := [.int _, .int _]) h d_L_law_985 mf_X7_reading mi_X7_reading ml_RL_111 ⟨by decide, hk, hn⟩ (JJ7 hJ) rfl rfl (Nat.le_of_ble_eq_true rfl) trivial c1 ?_
  intro r sh1 I1 L1 R1 hp
  obtain ⟨e1, x, er, P2, c2, w2⟩ := w1 _ _ _ _ _ hp
  subst er; have e1 := e1.symm; subst e1
  refine ⟨rfl, ?_⟩
  refine pw_aload_n h 1 d_L_law_988 rfl ?_
  refine law_arg 1 h hs hL d_L_law_989 d_L_law_990 d_L_law_991 (by decide) d_L_law_992 d_L_law_993 (by omega) ?_
  refine law_arg 2 h hs hL d_L_law_994 d_L_law_995 d_L_law_996 (by decide) d_L_law_997 d_L_law_998 (by omega) ?_
  refine pw_callV (As := [.int _, .int _]) h d_L_law_999 mf_X8_reading mi_X8_reading ml_RL_114 ⟨by decide, hk, hn⟩ (JJ8 hJ) rfl rfl (Nat.le_of_ble_eq_true rfl) trivial c2 ?_
  intro r2 sh2 I2 L2 R2 hp2
  obtain ⟨e2, er, hJ2⟩ := w2 _ _ _ _ _ hp2
  subst er; have e2 := e2.symm; subst e2
  refine ⟨rfl, ?_⟩
  exact pw_icmp_eq 1261 h d_L_law_1002 (by decide) (fun _ => kk _ _ _ hJ2) (fun q => absurd rfl q)
theorem law_23 (h : PXok X RL cL_law 13 kc ks) (hs : PXs X b LL scr) (hL : LL ≤ 3072) (hj : j + 6 ≤ LL) (hk : k ≤ kc) (hn : n ≤ ks) (hJ : JJ sh I L R) (kk : ∀ (I2 : IM) (L2 : LM) (R2 : RM), JJ sh I2 L2 R2 → PW X 1261 (lwL j) [] sh I2 L2 R2 k n) : PW X 1007 (lwL j) [] sh I L R k n := by
  refine pw_aload_n h 2 d_L_law_1007 rfl ?_
  obtain ⟨P1, c1, w1⟩ := j_closes hJ 
  refine pw_callV (As := []) h d_L_law_1008 mf_X7_closes mi_X7_closes ml_RL_115 ⟨by decide, hk, hn⟩ (JJ7 hJ) rfl rfl (Nat.le_of_ble_eq_true rfl) trivial c1 ?_
  intro r sh1 I1 L1 R1 hp
  obtain ⟨e1, x, er, P2, c2, w2⟩ := w1 _ _ _ _ _ hp
  subst er; have e1 := e1.symm; subst e1
  refine ⟨rfl, ?_⟩
  refine pw_aload_n h 1 d_L_law_1011 rfl ?_
  refine pw_callV (As := []) h d_L_law_1012 mf_X8_closes mi_X8_closes ml_RL_118 ⟨by decide, hk, hn⟩ (JJ8 hJ) rfl rfl (Nat.le_of_ble_eq_true rfl) trivial c2 ?_
  intro r2 sh2 I2 L2 R2 hp2
  obtain ⟨e2, er, hJ2⟩ := w2 _ _ _ _ _ hp2
  subst er; have e2 := e2.symm; subst e2
  refine ⟨rfl, ?_⟩
  exact pw_icmp_eq 1261 h d_L_law_1015 (by decide) (fun _ => kk _ _ _ hJ2) (fun q => absurd rfl q)
theorem law_24 (h : PXok X RL cL_law 13 kc ks) (hs : PXs X b LL scr) (hL : LL ≤ 3072) (hj : j + 6 ≤ LL) (hk : k ≤ kc) (hn : n ≤ ks) (hJ : JJ sh I L R) (kk : ∀ (I2 : IM) (L2 : LM) (R2 : RM), JJ sh I2 L2 R2 → PW X 1261 (lwL j) [] sh I2 L2 R2 k n) : PW X 1020 (lwL j) [] sh I L R k n := by
  refine pw_aload_n h 2 d_L_law_1020 rfl ?_
  refine law_arg 1 h hs hL d_L_law_1021 d_L_law_1022 d_L_law_1023 (by decide) d_L_law_1024 d_L_law_1025 (by omega) ?_
  obtain ⟨P1, c1, w1⟩ := j_mended hJ (scr (j + 1))
  refine pw_callV (As := [.int _]) h d_L_law_1026 mf_X7_mended mi_X7_mended ml_RL_119 ⟨by decide, hk, hn⟩ (JJ7 hJ) rfl rfl (Nat.le_of_ble_eq_true rfl) trivial c1 ?_
  intro r sh1 I1 L1 R1 hp
  obtain ⟨e1, x, er, P2, c2, w2⟩ := w1 _ _ _ _ _ hp
  subst er; have e1 := e1.symm; subst e1
  refine ⟨rfl, ?_⟩
  refine pw_aload_n h 1 d_L_law_1029 rfl ?_
  refine law_arg 1 h hs hL d_L_law_1030 d_L_law_1031 d_L_law_1032 (by decide) d_L_law_1033 d_L_law_1034 (by omega) ?_
  refine pw_callV (As := [.int _]) h d_L_law_1035 mf_X8_mended mi_X8_mended ml_RL_122 ⟨by decide, hk, hn⟩ (JJ8 hJ) rfl rfl (Nat.le_of_ble_eq_true rfl) trivial c2 ?_
  intro r2 sh2 I2 L2 R2 hp2
  obtain ⟨e2, er, hJ2⟩ := w2 _ _ _ _ _ hp2
  subst er; have e2 := e2.symm; subst e2
  refine ⟨rfl, ?_⟩
  exact pw_icmp_eq 1261 h d_L_law_1038 (by decide) (fun _ => kk _ _ _ hJ2) (fun q => absurd rfl q)
theorem law_25 (h : PXok X RL cL_law 13 kc ks) (hs : PXs X b LL scr) (hL : LL ≤ 3072) (hj : j + 6 ≤ LL) (hk : k ≤ kc) (hn : n ≤ ks) (hJ : JJ sh I L R) (kk : ∀ (I2 : IM) (L2 : LM) (R2 : RM), JJ sh I2 L2 R2 → PW X 1261 (lwL j) [] sh I2 L2 R2 k n) : PW X 1043 (lwL j) [] sh I L R k n := by
  refine pw_aload_n h 2 d_L_law_1043 rfl ?_
  refine law_arg 1 h hs hL d_L_law_1044 d_L_law_1045 d_L_law_1046 (by decide) d_L_law_1047 d_L_law_1048 (by omega) ?_
  obtain ⟨P1, c1, w1⟩ := j_run hJ (scr (j + 1))
  refine pw_callV (As := [.int _]) h d_L_law_1049 mf_X7_run mi_X7_run ml_RL_123 ⟨by decide, hk, hn⟩ (JJ7 hJ) rfl rfl (Nat.le_of_ble_eq_true rfl) trivial c1 ?_
  intro r sh1 I1 L1 R1 hp
  obtain ⟨e1, x, er, P2, c2, w2⟩ := w1 _ _ _ _ _ hp
  subst er; have e1 := e1.symm; subst e1
  refine ⟨rfl, ?_⟩
  refine pw_aload_n h 1 d_L_law_1052 rfl ?_
  refine law_arg 1 h hs hL d_L_law_1053 d_L_law_1054 d_L_law_1055 (by decide) d_L_law_1056 d_L_law_1057 (by omega) ?_
  refine pw_callV (As := [.int _]) h d_L_law_1058 mf_X8_run mi_X8_run ml_RL_126 ⟨by decide, hk, hn⟩ (JJ8 hJ) rfl rfl (Nat.le_of_ble_eq_true rfl) trivial c2 ?_
  intro r2 sh2 I2 L2 R2 hp2
  obtain ⟨e2, er, hJ2⟩ := w2 _ _ _ _ _ hp2
  subst er; have e2 := e2.symm; subst e2
  refine ⟨rfl, ?_⟩
  exact pw_icmp_eq 1261 h d_L_law_1061 (by decide) (fun _ => kk _ _ _ hJ2) (fun q => absurd rfl q)
theorem law_26 (h : PXok X RL cL_law 13 kc ks) (hs : PXs X b LL scr) (hL : LL ≤ 3072) (hj : j + 6 ≤ LL) (hk : k ≤ kc) (hn : n ≤ ks) (hJ : JJ sh I L R) (kk : ∀ (I2 : IM) (L2 : LM) (R2 : RM), JJ sh I2 L2 R2 → PW X 1261 (lwL j) [] sh I2 L2 R2 k n) : PW X 1066 (lwL j) [] sh I L R k n := by
  refine pw_aload_n h 2 d_L_law_1066 rfl ?_
  obtain ⟨P1, c1, w1⟩ := j_whirl hJ 
  refine pw_callV (As := []) h d_L_law_1067 mf_X7_whirl mi_X7_whirl ml_RL_127 ⟨by decide, hk, hn⟩ (JJ7 hJ) rfl rfl (Nat.le_of_ble_eq_true rfl) trivial c1 ?_
  intro r sh1 I1 L1 R1 hp
  obtain ⟨e1, x, er, P2, c2, w2⟩ := w1 _ _ _ _ _ hp
  subst er; have e1 := e1.symm; subst e1
  refine ⟨rfl, ?_⟩
  refine pw_aload_n h 1 d_L_law_1070 rfl ?_
  refine pw_callV (As := []) h d_L_law_1071 mf_X8_whirl mi_X8_whirl ml_RL_130 ⟨by decide, hk, hn⟩ (JJ8 hJ) rfl rfl (Nat.le_of_ble_eq_true rfl) trivial c2 ?_
  intro r2 sh2 I2 L2 R2 hp2
  obtain ⟨e2, er, hJ2⟩ := w2 _ _ _ _ _ hp2
  subst er; have e2 := e2.symm; subst e2
  refine ⟨rfl, ?_⟩
  exact pw_icmp_eq 1261 h d_L_law_1074 (by decide) (fun _ => kk _ _ _ hJ2) (fun q => absurd rfl q)
theorem law_27 (h : PXok X RL cL_law 13 kc ks) (hs : PXs X b LL scr) (hL : LL ≤ 3072) (hj : j + 6 ≤ LL) (hk : k ≤ kc) (hn : n ≤ ks) (hJ : JJ sh I L R) (kk : ∀ (I2 : IM) (L2 : LM) (R2 : RM), JJ sh I2 L2 R2 → PW X 1261 (lwL j) [] sh I2 L2 R2 k n) : PW X 1079 (lwL j) [] sh I L R k n := by
  refine pw_aload_n h 2 d_L_law_1079 rfl ?_
  refine law_arg 1 h hs hL d_L_law_1080 d_L_law_1081 d_L_law_1082 (by decide) d_L_law_1083 d_L_law_1084 (by omega) ?_
  refine law_arg 2 h hs hL d_L_law_1085 d_L_law_1086 d_L_law_1087 (by decide) d_L_law_1088 d_L_law_1089 (by omega) ?_
  refine law_arg 3 h hs hL d_L_law_1090 d_L_law_1091 d_L_law_1092 (by decide) d_L_law_1093 d_L_law_1094 (by omega) ?_
  obtain ⟨P1, c1, w1⟩ := j_sheet hJ (scr (j + 1)) (scr (j + 2)) (scr (j + 3))
  refine pw_callV (As := [.int _, .int _, .int _]) h d_L_law_1095 mf_X7_sheet mi_X7_sheet ml_RL_131 ⟨by decide, hk, hn⟩ (JJ7 hJ) rfl rfl (Nat.le_of_ble_eq_true rfl) trivial c1 ?_
  intro r sh1 I1 L1 R1 hp
  obtain ⟨e1, x, er, P2, c2, w2⟩ := w1 _ _ _ _ _ hp
  subst er; have e1 := e1.symm; subst e1
  refine ⟨rfl, ?_⟩
  refine pw_aload_n h 1 d_L_law_1098 rfl ?_
  refine law_arg 1 h hs hL d_L_law_1099 d_L_law_1100 d_L_law_1101 (by decide) d_L_law_1102 d_L_law_1103 (by omega) ?_
  refine law_arg 2 h hs hL d_L_law_1104 d_L_law_1105 d_L_law_1106 (by decide) d_L_law_1107 d_L_law_1108 (by omega) ?_
  refine law_arg 3 h hs hL d_L_law_1109 d_L_law_1110 d_L_law_1111 (by decide) d_L_law_1112 d_L_law_1113 (by omega) ?_
  refine pw_callV (As := [.int _, .int _, .int _]) h d_L_law_1114 mf_X8_sheet mi_X8_sheet ml_RL_134 ⟨by decide, hk, hn⟩ (JJ8 hJ) rfl rfl (Nat.le_of_ble_eq_true rfl) trivial c2 ?_
  intro r2 sh2 I2 L2 R2 hp2
  obtain ⟨e2, er, hJ2⟩ := w2 _ _ _ _ _ hp2
  subst er; have e2 := e2.symm; subst e2
  refine ⟨rfl, ?_⟩
  exact pw_icmp_eq 1261 h d_L_law_1117 (by decide) (fun _ => kk _ _ _ hJ2) (fun q => absurd rfl q)
theorem law_28 (h : PXok X RL cL_law 13 kc ks) (hs : PXs X b LL scr) (hL : LL ≤ 3072) (hj : j + 6 ≤ LL) (hk : k ≤ kc) (hn : n ≤ ks) (hJ : JJ sh I L R) (kk : ∀ (I2 : IM) (L2 : LM) (R2 : RM), JJ sh I2 L2 R2 → PW X 1261 (lwL j) [] sh I2 L2 R2 k n) : PW X 1122 (lwL j) [] sh I L R k n := by
  refine pw_aload_n h 2 d_L_law_1122 rfl ?_
  refine law_arg 1 h hs hL d_L_law_1123 d_L_law_1124 d_L_law_1125 (by decide) d_L_law_1126 d_L_law_1127 (by omega) ?_
  obtain ⟨P1, c1, w1⟩ := j_drop hJ (scr (j + 1))
  refine pw_callV (As := [.int _]) h d_L_law_1128 mf_X7_drop mi_X7_drop ml_RL_135 ⟨by decide, hk, hn⟩ (JJ7 hJ) rfl rfl (Nat.le_of_ble_eq_true rfl) trivial c1 ?_
  intro r sh1 I1 L1 R1 hp
  obtain ⟨e1, x, er, P2, c2, w2⟩ := w1 _ _ _ _ _ hp
  subst er; have e1 := e1.symm; subst e1
  refine ⟨rfl, ?_⟩
  refine pw_aload_n h 1 d_L_law_1131 rfl ?_
  refine law_arg 1 h hs hL d_L_law_1132 d_L_law_1133 d_L_law_1134 (by decide) d_L_law_1135 d_L_law_1136 (by omega) ?_
  refine pw_callV (As := [.int _]) h d_L_law_1137 mf_X8_drop mi_X8_drop ml_RL_138 ⟨by decide, hk, hn⟩ (JJ8 hJ) rfl rfl (Nat.le_of_ble_eq_true rfl) trivial c2 ?_
  intro r2 sh2 I2 L2 R2 hp2
  obtain ⟨e2, er, hJ2⟩ := w2 _ _ _ _ _ hp2
  subst er; have e2 := e2.symm; subst e2
  refine ⟨rfl, ?_⟩
  exact pw_icmp_eq 1261 h d_L_law_1140 (by decide) (fun _ => kk _ _ _ hJ2) (fun q => absurd rfl q)
theorem law_29 (h : PXok X RL cL_law 13 kc ks) (hs : PXs X b LL scr) (hL : LL ≤ 3072) (hj : j + 6 ≤ LL) (hk : k ≤ kc) (hn : n ≤ ks) (hJ : JJ sh I L R) (kk : ∀ (I2 : IM) (L2 : LM) (R2 : RM), JJ sh I2 L2 R2 → PW X 1261 (lwL j) [] sh I2 L2 R2 k n) : PW X 1145 (lwL j) [] sh I L R k n := by
  refine pw_aload_n h 2 d_L_law_1145 rfl ?_
  refine law_arg 1 h hs hL d_L_law_1146 d_L_law_1147 d_L_law_1148 (by decide) d_L_law_1149 d_L_law_1150 (by omega) ?_
  refine law_arg 2 h hs hL d_L_law_1151 d_L_law_1152 d_L_law_1153 (by decide) d_L_law_1154 d_L_law_1155 (by omega) ?_
  refine law_arg 3 h hs hL d_L_law_1156 d_L_law_1157 d_L_law_1158 (by decide) d_L_law_1159 d_L_law_1160 (by omega) ?_
  refine law_arg 4 h hs hL d_L_law_1161 d_L_law_1162 d_L_law_1163 (by decide) d_L_law_1164 d_L_law_1165 (by omega) ?_
  obtain ⟨P1, c1, w1⟩ := j_item hJ (scr (j + 1)) (scr (j + 2)) (scr (j + 3)) (scr (j + 4))
  refine pw_callV (As := [.int _, .int _, .int _, .int _]) h d_L_law_1166 mf_X7_item mi_X7_item ml_RL_139 ⟨by decide, hk, hn⟩ (JJ7 hJ) rfl rfl (Nat.le_of_ble_eq_true rfl) trivial c1 ?_
  intro r sh1 I1 L1 R1 hp
  obtain ⟨e1, x, er, P2, c2, w2⟩ := w1 _ _ _ _ _ hp
  subst er; have e1 := e1.symm; subst e1
  refine ⟨rfl, ?_⟩
  refine pw_aload_n h 1 d_L_law_1169 rfl ?_
  refine law_arg 1 h hs hL d_L_law_1170 d_L_law_1171 d_L_law_1172 (by decide) d_L_law_1173 d_L_law_1174 (by omega) ?_
  refine law_arg 2 h hs hL d_L_law_1175 d_L_law_1176 d_L_law_1177 (by decide) d_L_law_1178 d_L_law_1179 (by omega) ?_
  refine law_arg 3 h hs hL d_L_law_1180 d_L_law_1181 d_L_law_1182 (by decide) d_L_law_1183 d_L_law_1184 (by omega) ?_
  refine law_arg 4 h hs hL d_L_law_1185 d_L_law_1186 d_L_law_1187 (by decide) d_L_law_1188 d_L_law_1189 (by omega) ?_
  refine pw_callV (As := [.int _, .int _, .int _, .int _]) h d_L_law_1190 mf_X8_item mi_X8_item ml_RL_143 ⟨by decide, hk, hn⟩ (JJ8 hJ) rfl rfl (Nat.le_of_ble_eq_true rfl) trivial c2 ?_
  intro r2 sh2 I2 L2 R2 hp2
  obtain ⟨e2, er, hJ2⟩ := w2 _ _ _ _ _ hp2
  subst er; have e2 := e2.symm; subst e2
  refine ⟨rfl, ?_⟩
  exact pw_icmp_eq 1261 h d_L_law_1193 (by decide) (fun _ => kk _ _ _ hJ2) (fun q => absurd rfl q)
theorem law_30 (h : PXok X RL cL_law 13 kc ks) (hs : PXs X b LL scr) (hL : LL ≤ 3072) (hj : j + 6 ≤ LL) (hk : k ≤ kc) (hn : n ≤ ks) (hJ : JJ sh I L R) (kk : ∀ (I2 : IM) (L2 : LM) (R2 : RM), JJ sh I2 L2 R2 → PW X 1261 (lwL j) [] sh I2 L2 R2 k n) : PW X 1198 (lwL j) [] sh I L R k n := by
  refine pw_aload_n h 2 d_L_law_1198 rfl ?_
  refine law_arg 1 h hs hL d_L_law_1199 d_L_law_1200 d_L_law_1201 (by decide) d_L_law_1202 d_L_law_1203 (by omega) ?_
  refine law_arg 2 h hs hL d_L_law_1204 d_L_law_1205 d_L_law_1206 (by decide) d_L_law_1207 d_L_law_1208 (by omega) ?_
  refine law_arg 3 h hs hL d_L_law_1209 d_L_law_1210 d_L_law_1211 (by decide) d_L_law_1212 d_L_law_1213 (by omega) ?_
  refine law_arg 4 h hs hL d_L_law_1214 d_L_law_1215 d_L_law_1216 (by decide) d_L_law_1217 d_L_law_1218 (by omega) ?_
  refine law_arg 5 h hs hL d_L_law_1219 d_L_law_1220 d_L_law_1221 (by decide) d_L_law_1222 d_L_law_1223 (by omega) ?_
  obtain ⟨P1, c1, w1⟩ := j_copy hJ (scr (j + 1)) (scr (j + 2)) (scr (j + 3)) (scr (j + 4)) (scr (j + 5))
  refine pw_callV (As := [.int _, .int _, .int _, .int _, .int _]) h d_L_law_1224 mf_X7_copy mi_X7_copy ml_RL_144 ⟨by decide, hk, hn⟩ (JJ7 hJ) rfl rfl (Nat.le_of_ble_eq_true rfl) trivial c1 ?_
  intro r sh1 I1 L1 R1 hp
  obtain ⟨e1, x, er, P2, c2, w2⟩ := w1 _ _ _ _ _ hp
  subst er; have e1 := e1.symm; subst e1
  refine ⟨rfl, ?_⟩
  refine pw_aload_n h 1 d_L_law_1227 rfl ?_
  refine law_arg 1 h hs hL d_L_law_1228 d_L_law_1229 d_L_law_1230 (by decide) d_L_law_1231 d_L_law_1232 (by omega) ?_
  refine law_arg 2 h hs hL d_L_law_1233 d_L_law_1234 d_L_law_1235 (by decide) d_L_law_1236 d_L_law_1237 (by omega) ?_
  refine law_arg 3 h hs hL d_L_law_1238 d_L_law_1239 d_L_law_1240 (by decide) d_L_law_1241 d_L_law_1242 (by omega) ?_
  refine law_arg 4 h hs hL d_L_law_1243 d_L_law_1244 d_L_law_1245 (by decide) d_L_law_1246 d_L_law_1247 (by omega) ?_
  refine law_arg 5 h hs hL d_L_law_1248 d_L_law_1249 d_L_law_1250 (by decide) d_L_law_1251 d_L_law_1252 (by omega) ?_
  refine pw_callV (As := [.int _, .int _, .int _, .int _, .int _]) h d_L_law_1253 mf_X8_copy mi_X8_copy ml_RL_147 ⟨by decide, hk, hn⟩ (JJ8 hJ) rfl rfl (Nat.le_of_ble_eq_true rfl) trivial c2 ?_
  intro r2 sh2 I2 L2 R2 hp2
  obtain ⟨e2, er, hJ2⟩ := w2 _ _ _ _ _ hp2
  subst er; have e2 := e2.symm; subst e2
  refine ⟨rfl, ?_⟩
  exact pw_icmp_eq 1261 h d_L_law_1256 (by decide) (fun _ => kk _ _ _ hJ2) (fun q => absurd rfl q)
end LAWC
