/-! the law, case by case -/
def scr (s : Nat → Int32) (k : Int) : Int := (s k.toNat).toInt
theorem scr_in (s : Nat → Int32) (k : Int) : R32 (scr s k) := zA_in (fun _ => s, fun _ _ => 0, fun _ _ => 0, fun _ => (0, 0), 0, 0) 0 k
theorem scr_at {h : XH} {s : Nat → Int32} {n : Nat} (K : KS h s n) (k : Int) : gI h 1000000 k.toNat = iI (scr s k) := by
  have e : scr s k = zA h 1000000 k := by unfold scr zA; rw [K.2.2.2.2.2]
  rw [e, gI_A]
theorem INV.ks {i : Nat} {h : XH} {s : Nat → Int32} {n : Nat} (I : INV i h s n) : KS h s n := by
  obtain ⟨B, dd, M, t, T, np, pl, L, tr, du, v, S⟩ := I
  exact S.1
theorem lg_self (r : Int64) : lg_cmp r r = 0 := by
  obtain ⟨e, b⟩ := iL_of r
  rw [e, lg_lt b b, if_neg (by omega), if_pos rfl]; rfl
section LAW
variable {i n : Nat} {h : XH} {s : Nat → Int32} {Q : Option Value → XH → Prop} {X5 X6 : Value}
theorem law_0 (hi : i ≤ 600) (hb : 6 * (i : Int) + 6 ≤ n) (hn : n ≤ 3072) (I : INV i h s n) (J : ∀ h2 Y5 Y6, INV (i + 1) h2 s n → XW 41 284 1593 [.ref 1000000, .ref 1, .ref 118, .ref 154, .int (iI (6 * (i : Int))), Y5, Y6] [] h2 Q) : XW 41 284 200 [.ref 1000000, .ref 1, .ref 118, .ref 154, .int (iI (6 * (i : Int))), X5, X6] [] h Q := by
  have kS := I.ks
  have hL := kS.1
  have hn6 : n ≤ 1000000 := by omega
  refine w_aload1 r_284_200 ?_
  refine w_aload0 r_284_201 ?_
  refine w_iload4 r_284_202 ?_
  refine w_iconst (v := iI (1)) r_284_204 rfl ?_
  refine v_iadd r_284_205 ?_
  refine v_iald r_284_206 kS.2.2.2.1 kS.2.2.2.2.1 hn6 (by omega) (scr_at kS _) ?_
  refine w_aload0 r_284_207 ?_
  refine w_iload4 r_284_208 ?_
  refine w_iconst (v := iI (2)) r_284_210 rfl ?_
  refine v_iadd r_284_211 ?_
  refine v_iald r_284_212 kS.2.2.2.1 kS.2.2.2.2.1 hn6 (by omega) (scr_at kS _) ?_
  refine w_aload0 r_284_213 ?_
  refine w_iload4 r_284_214 ?_
  refine w_iconst (v := iI (3)) r_284_216 rfl ?_
  refine v_iadd r_284_217 ?_
  refine v_iald r_284_218 kS.2.2.2.1 kS.2.2.2.2.1 hn6 (by omega) (scr_at kS _) ?_
  refine w_aload0 r_284_219 ?_
  refine w_iload4 r_284_220 ?_
  refine w_iconst (v := iI (4)) r_284_222 rfl ?_
  refine v_iadd r_284_223 ?_
  refine v_iald r_284_224 kS.2.2.2.1 kS.2.2.2.2.1 hn6 (by omega) (scr_at kS _) ?_
  refine w_aload0 r_284_225 ?_
  refine w_iload4 r_284_226 ?_
  refine w_iconst (v := iI (5)) r_284_228 rfl ?_
  refine v_iadd r_284_229 ?_
  refine v_iald r_284_230 kS.2.2.2.1 kS.2.2.2.2.1 hn6 (by omega) (scr_at kS _) ?_
  refine k_116 r_284_231 (Lk_1 hL) (Nat.le_of_ble_eq_true rfl) ?_
  refine o_feed I (fun r h1 md => ?_)
  have kS := md.1
  have hL := kS.1
  refine w_aload2 r_284_234 ?_
  refine w_aload0 r_284_235 ?_
  refine w_iload4 r_284_236 ?_
  refine w_iconst (v := iI (1)) r_284_238 rfl ?_
  refine v_iadd r_284_239 ?_
  refine v_iald r_284_240 kS.2.2.2.1 kS.2.2.2.2.1 hn6 (by omega) (scr_at kS _) ?_
  refine w_aload0 r_284_241 ?_
  refine w_iload4 r_284_242 ?_
  refine w_iconst (v := iI (2)) r_284_244 rfl ?_
  refine v_iadd r_284_245 ?_
  refine v_iald r_284_246 kS.2.2.2.1 kS.2.2.2.2.1 hn6 (by omega) (scr_at kS _) ?_
  refine w_aload0 r_284_247 ?_
  refine w_iload4 r_284_248 ?_
  refine w_iconst (v := iI (3)) r_284_250 rfl ?_
  refine v_iadd r_284_251 ?_
  refine v_iald r_284_252 kS.2.2.2.1 kS.2.2.2.2.1 hn6 (by omega) (scr_at kS _) ?_
  refine w_aload0 r_284_253 ?_
  refine w_iload4 r_284_254 ?_
  refine w_iconst (v := iI (4)) r_284_256 rfl ?_
  refine v_iadd r_284_257 ?_
  refine v_iald r_284_258 kS.2.2.2.1 kS.2.2.2.2.1 hn6 (by omega) (scr_at kS _) ?_
  refine w_aload0 r_284_259 ?_
  refine w_iload4 r_284_260 ?_
  refine w_iconst (v := iI (5)) r_284_262 rfl ?_
  refine v_iadd r_284_263 ?_
  refine v_iald r_284_264 kS.2.2.2.1 kS.2.2.2.2.1 hn6 (by omega) (scr_at kS _) ?_
  refine k_168 r_284_265 (Lk_118 hL) (Nat.le_of_ble_eq_true rfl) ?_
  refine md.2 _ (fun h2 I2 => ?_)
  refine w_ic_eq r_284_268 (fun _ => ?_) (fun q => absurd q (by exact fun z => z rfl))
  exact J h2 _ _ I2
theorem law_1 (hi : i ≤ 600) (hb : 6 * (i : Int) + 6 ≤ n) (hn : n ≤ 3072) (I : INV i h s n) (J : ∀ h2 Y5 Y6, INV (i + 1) h2 s n → XW 41 284 1593 [.ref 1000000, .ref 1, .ref 118, .ref 154, .int (iI (6 * (i : Int))), Y5, Y6] [] h2 Q) : XW 41 284 273 [.ref 1000000, .ref 1, .ref 118, .ref 154, .int (iI (6 * (i : Int))), X5, X6] [] h Q := by
  have kS := I.ks
  have hL := kS.1
  have hn6 : n ≤ 1000000 := by omega
  refine w_aload1 r_284_273 ?_
  refine w_aload0 r_284_274 ?_
  refine w_iload4 r_284_275 ?_
  refine w_iconst (v := iI (1)) r_284_277 rfl ?_
  refine v_iadd r_284_278 ?_
  refine v_iald r_284_279 kS.2.2.2.1 kS.2.2.2.2.1 hn6 (by omega) (scr_at kS _) ?_
  refine k_118 r_284_280 (Lk_1 hL) (Nat.le_of_ble_eq_true rfl) ?_
  refine o_book hi (scr_in _ _) I (fun r h1 md => ?_)
  have kS := md.1
  have hL := kS.1
  refine w_aload2 r_284_283 ?_
  refine w_aload0 r_284_284 ?_
  refine w_iload4 r_284_285 ?_
  refine w_iconst (v := iI (1)) r_284_287 rfl ?_
  refine v_iadd r_284_288 ?_
  refine v_iald r_284_289 kS.2.2.2.1 kS.2.2.2.2.1 hn6 (by omega) (scr_at kS _) ?_
  refine k_183 r_284_290 (Lk_118 hL) (Nat.le_of_ble_eq_true rfl) ?_
  refine md.2 _ (fun h2 I2 => ?_)
  refine w_ic_eq r_284_293 (fun _ => ?_) (fun q => absurd q (by exact fun z => z rfl))
  exact J h2 _ _ I2
theorem law_2 (hi : i ≤ 600) (hb : 6 * (i : Int) + 6 ≤ n) (hn : n ≤ 3072) (I : INV i h s n) (J : ∀ h2 Y5 Y6, INV (i + 1) h2 s n → XW 41 284 1593 [.ref 1000000, .ref 1, .ref 118, .ref 154, .int (iI (6 * (i : Int))), Y5, Y6] [] h2 Q) : XW 41 284 298 [.ref 1000000, .ref 1, .ref 118, .ref 154, .int (iI (6 * (i : Int))), X5, X6] [] h Q := by
  have kS := I.ks
  have hL := kS.1
  have hn6 : n ≤ 1000000 := by omega
  refine w_aload1 r_284_298 ?_
  refine w_aload0 r_284_299 ?_
  refine w_iload4 r_284_300 ?_
  refine w_iconst (v := iI (1)) r_284_302 rfl ?_
  refine v_iadd r_284_303 ?_
  refine v_iald r_284_304 kS.2.2.2.1 kS.2.2.2.2.1 hn6 (by omega) (scr_at kS _) ?_
  refine k_119 r_284_305 (Lk_1 hL) (Nat.le_of_ble_eq_true rfl) ?_
  refine o_plan (scr_in _ _) I (fun r h1 md => ?_)
  have kS := md.1
  have hL := kS.1
  refine w_aload2 r_284_308 ?_
  refine w_aload0 r_284_309 ?_
  refine w_iload4 r_284_310 ?_
  refine w_iconst (v := iI (1)) r_284_312 rfl ?_
  refine v_iadd r_284_313 ?_
  refine v_iald r_284_314 kS.2.2.2.1 kS.2.2.2.2.1 hn6 (by omega) (scr_at kS _) ?_
  refine k_251 r_284_315 (Lk_118 hL) (Nat.le_of_ble_eq_true rfl) ?_
  refine md.2 _ (fun h2 I2 => ?_)
  refine w_ic_eq r_284_318 (fun _ => ?_) (fun q => absurd q (by exact fun z => z rfl))
  exact J h2 _ _ I2
theorem law_3 (hi : i ≤ 600) (hb : 6 * (i : Int) + 6 ≤ n) (hn : n ≤ 3072) (I : INV i h s n) (J : ∀ h2 Y5 Y6, INV (i + 1) h2 s n → XW 41 284 1593 [.ref 1000000, .ref 1, .ref 118, .ref 154, .int (iI (6 * (i : Int))), Y5, Y6] [] h2 Q) : XW 41 284 323 [.ref 1000000, .ref 1, .ref 118, .ref 154, .int (iI (6 * (i : Int))), X5, X6] [] h Q := by
  have kS := I.ks
  have hL := kS.1
  have hn6 : n ≤ 1000000 := by omega
  refine w_aload1 r_284_323 ?_
  refine k_120 r_284_324 (Lk_1 hL) (Nat.le_of_ble_eq_true rfl) ?_
  refine o_fault I (fun r h1 md => ?_)
  have kS := md.1
  have hL := kS.1
  refine w_aload2 r_284_327 ?_
  refine k_188 r_284_328 (Lk_118 hL) (Nat.le_of_ble_eq_true rfl) ?_
  refine md.2 _ (fun h2 I2 => ?_)
  refine w_ic_eq r_284_331 (fun _ => ?_) (fun q => absurd q (by exact fun z => z rfl))
  exact J h2 _ _ I2
theorem law_4 (hi : i ≤ 600) (hb : 6 * (i : Int) + 6 ≤ n) (hn : n ≤ 3072) (I : INV i h s n) (J : ∀ h2 Y5 Y6, INV (i + 1) h2 s n → XW 41 284 1593 [.ref 1000000, .ref 1, .ref 118, .ref 154, .int (iI (6 * (i : Int))), Y5, Y6] [] h2 Q) : XW 41 284 336 [.ref 1000000, .ref 1, .ref 118, .ref 154, .int (iI (6 * (i : Int))), X5, X6] [] h Q := by
  have kS := I.ks
  have hL := kS.1
  have hn6 : n ≤ 1000000 := by omega
  refine w_aload1 r_284_336 ?_
  refine k_121 r_284_337 (Lk_1 hL) (Nat.le_of_ble_eq_true rfl) ?_
  refine o_where I (fun r h1 md => ?_)
  have kS := md.1
  have hL := kS.1
  refine w_aload2 r_284_340 ?_
  refine k_189 r_284_341 (Lk_118 hL) (Nat.le_of_ble_eq_true rfl) ?_
  refine md.2 _ (fun h2 I2 => ?_)
  refine w_ic_eq r_284_344 (fun _ => ?_) (fun q => absurd q (by exact fun z => z rfl))
  exact J h2 _ _ I2
theorem law_5 (hi : i ≤ 600) (hb : 6 * (i : Int) + 6 ≤ n) (hn : n ≤ 3072) (I : INV i h s n) (J : ∀ h2 Y5 Y6, INV (i + 1) h2 s n → XW 41 284 1593 [.ref 1000000, .ref 1, .ref 118, .ref 154, .int (iI (6 * (i : Int))), Y5, Y6] [] h2 Q) : XW 41 284 349 [.ref 1000000, .ref 1, .ref 118, .ref 154, .int (iI (6 * (i : Int))), X5, X6] [] h Q := by
  have kS := I.ks
  have hL := kS.1
  have hn6 : n ≤ 1000000 := by omega
  refine w_aload1 r_284_349 ?_
  refine w_aload0 r_284_350 ?_
  refine w_iload4 r_284_351 ?_
  refine w_iconst (v := iI (1)) r_284_353 rfl ?_
  refine v_iadd r_284_354 ?_
  refine v_iald r_284_355 kS.2.2.2.1 kS.2.2.2.2.1 hn6 (by omega) (scr_at kS _) ?_
  refine w_aload0 r_284_356 ?_
  refine w_iload4 r_284_357 ?_
  refine w_iconst (v := iI (2)) r_284_359 rfl ?_
  refine v_iadd r_284_360 ?_
  refine v_iald r_284_361 kS.2.2.2.1 kS.2.2.2.2.1 hn6 (by omega) (scr_at kS _) ?_
  refine k_122 r_284_362 (Lk_1 hL) (Nat.le_of_ble_eq_true rfl) ?_
  refine o_sink (scr_in _ _) (scr_in _ _) I (fun r h1 md => ?_)
  have kS := md.1
  have hL := kS.1
  refine w_aload2 r_284_365 ?_
  refine w_aload0 r_284_366 ?_
  refine w_iload4 r_284_367 ?_
  refine w_iconst (v := iI (1)) r_284_369 rfl ?_
  refine v_iadd r_284_370 ?_
  refine v_iald r_284_371 kS.2.2.2.1 kS.2.2.2.2.1 hn6 (by omega) (scr_at kS _) ?_
  refine w_aload0 r_284_372 ?_
  refine w_iload4 r_284_373 ?_
  refine w_iconst (v := iI (2)) r_284_375 rfl ?_
  refine v_iadd r_284_376 ?_
  refine v_iald r_284_377 kS.2.2.2.1 kS.2.2.2.2.1 hn6 (by omega) (scr_at kS _) ?_
  refine k_193 r_284_378 (Lk_118 hL) (Nat.le_of_ble_eq_true rfl) ?_
  refine md.2 _ (fun h2 I2 => ?_)
  refine w_ic_eq r_284_381 (fun _ => ?_) (fun q => absurd q (by exact fun z => z rfl))
  exact J h2 _ _ I2
theorem law_6 (hi : i ≤ 600) (hb : 6 * (i : Int) + 6 ≤ n) (hn : n ≤ 3072) (I : INV i h s n) (J : ∀ h2 Y5 Y6, INV (i + 1) h2 s n → XW 41 284 1593 [.ref 1000000, .ref 1, .ref 118, .ref 154, .int (iI (6 * (i : Int))), Y5, Y6] [] h2 Q) : XW 41 284 386 [.ref 1000000, .ref 1, .ref 118, .ref 154, .int (iI (6 * (i : Int))), X5, X6] [] h Q := by
  have kS := I.ks
  have hL := kS.1
  have hn6 : n ≤ 1000000 := by omega
  refine w_aload1 r_284_386 ?_
  refine w_aload0 r_284_387 ?_
  refine w_iload4 r_284_388 ?_
  refine w_iconst (v := iI (1)) r_284_390 rfl ?_
  refine v_iadd r_284_391 ?_
  refine v_iald r_284_392 kS.2.2.2.1 kS.2.2.2.2.1 hn6 (by omega) (scr_at kS _) ?_
  refine w_aload0 r_284_393 ?_
  refine w_iload4 r_284_394 ?_
  refine w_iconst (v := iI (2)) r_284_396 rfl ?_
  refine v_iadd r_284_397 ?_
  refine v_iald r_284_398 kS.2.2.2.1 kS.2.2.2.2.1 hn6 (by omega) (scr_at kS _) ?_
  refine k_123 r_284_399 (Lk_1 hL) (Nat.le_of_ble_eq_true rfl) ?_
  refine o_grip (scr_in _ _) (scr_in _ _) I (fun r h1 md => ?_)
  have kS := md.1
  have hL := kS.1
  refine w_aload2 r_284_402 ?_
  refine w_aload0 r_284_403 ?_
  refine w_iload4 r_284_404 ?_
  refine w_iconst (v := iI (1)) r_284_406 rfl ?_
  refine v_iadd r_284_407 ?_
  refine v_iald r_284_408 kS.2.2.2.1 kS.2.2.2.2.1 hn6 (by omega) (scr_at kS _) ?_
  refine w_aload0 r_284_409 ?_
  refine w_iload4 r_284_410 ?_
  refine w_iconst (v := iI (2)) r_284_412 rfl ?_
  refine v_iadd r_284_413 ?_
  refine v_iald r_284_414 kS.2.2.2.1 kS.2.2.2.2.1 hn6 (by omega) (scr_at kS _) ?_
  refine k_194 r_284_415 (Lk_118 hL) (Nat.le_of_ble_eq_true rfl) ?_
  refine md.2 _ (fun h2 I2 => ?_)
  refine w_ic_eq r_284_418 (fun _ => ?_) (fun q => absurd q (by exact fun z => z rfl))
  exact J h2 _ _ I2
theorem law_7 (hi : i ≤ 600) (hb : 6 * (i : Int) + 6 ≤ n) (hn : n ≤ 3072) (I : INV i h s n) (J : ∀ h2 Y5 Y6, INV (i + 1) h2 s n → XW 41 284 1593 [.ref 1000000, .ref 1, .ref 118, .ref 154, .int (iI (6 * (i : Int))), Y5, Y6] [] h2 Q) : XW 41 284 423 [.ref 1000000, .ref 1, .ref 118, .ref 154, .int (iI (6 * (i : Int))), X5, X6] [] h Q := by
  have kS := I.ks
  have hL := kS.1
  have hn6 : n ≤ 1000000 := by omega
  refine w_aload1 r_284_423 ?_
  refine w_aload0 r_284_424 ?_
  refine w_iload4 r_284_425 ?_
  refine w_iconst (v := iI (1)) r_284_427 rfl ?_
  refine v_iadd r_284_428 ?_
  refine v_iald r_284_429 kS.2.2.2.1 kS.2.2.2.2.1 hn6 (by omega) (scr_at kS _) ?_
  refine k_124 r_284_430 (Lk_1 hL) (Nat.le_of_ble_eq_true rfl) ?_
  refine o_dead hi (scr_in _ _) I (fun r h1 md => ?_)
  have kS := md.1
  have hL := kS.1
  refine w_aload2 r_284_433 ?_
  refine w_aload0 r_284_434 ?_
  refine w_iload4 r_284_435 ?_
  refine w_iconst (v := iI (1)) r_284_437 rfl ?_
  refine v_iadd r_284_438 ?_
  refine v_iald r_284_439 kS.2.2.2.1 kS.2.2.2.2.1 hn6 (by omega) (scr_at kS _) ?_
  refine k_195 r_284_440 (Lk_118 hL) (Nat.le_of_ble_eq_true rfl) ?_
  refine md.2 _ (fun h2 I2 => ?_)
  refine w_ic_eq r_284_443 (fun _ => ?_) (fun q => absurd q (by exact fun z => z rfl))
  exact J h2 _ _ I2
theorem law_8 (hi : i ≤ 600) (hb : 6 * (i : Int) + 6 ≤ n) (hn : n ≤ 3072) (I : INV i h s n) (J : ∀ h2 Y5 Y6, INV (i + 1) h2 s n → XW 41 284 1593 [.ref 1000000, .ref 1, .ref 118, .ref 154, .int (iI (6 * (i : Int))), Y5, Y6] [] h2 Q) : XW 41 284 448 [.ref 1000000, .ref 1, .ref 118, .ref 154, .int (iI (6 * (i : Int))), X5, X6] [] h Q := by
  have kS := I.ks
  have hL := kS.1
  have hn6 : n ≤ 1000000 := by omega
  refine w_aload1 r_284_448 ?_
  refine w_aload0 r_284_449 ?_
  refine w_iload4 r_284_450 ?_
  refine w_iconst (v := iI (1)) r_284_452 rfl ?_
  refine v_iadd r_284_453 ?_
  refine v_iald r_284_454 kS.2.2.2.1 kS.2.2.2.2.1 hn6 (by omega) (scr_at kS _) ?_
  refine w_aload0 r_284_455 ?_
  refine w_iload4 r_284_456 ?_
  refine w_iconst (v := iI (2)) r_284_458 rfl ?_
  refine v_iadd r_284_459 ?_
  refine v_iald r_284_460 kS.2.2.2.1 kS.2.2.2.2.1 hn6 (by omega) (scr_at kS _) ?_
  refine k_125 r_284_461 (Lk_1 hL) (Nat.le_of_ble_eq_true rfl) ?_
  refine o_map hi (scr_in _ _) (scr_in _ _) I (fun r h1 md => ?_)
  have kS := md.1
  have hL := kS.1
  refine w_aload2 r_284_464 ?_
  refine w_aload0 r_284_465 ?_
  refine w_iload4 r_284_466 ?_
  refine w_iconst (v := iI (1)) r_284_468 rfl ?_
  refine v_iadd r_284_469 ?_
  refine v_iald r_284_470 kS.2.2.2.1 kS.2.2.2.2.1 hn6 (by omega) (scr_at kS _) ?_
  refine w_aload0 r_284_471 ?_
  refine w_iload4 r_284_472 ?_
  refine w_iconst (v := iI (2)) r_284_474 rfl ?_
  refine v_iadd r_284_475 ?_
  refine v_iald r_284_476 kS.2.2.2.1 kS.2.2.2.2.1 hn6 (by omega) (scr_at kS _) ?_
  refine k_196 r_284_477 (Lk_118 hL) (Nat.le_of_ble_eq_true rfl) ?_
  refine md.2 _ (fun h2 I2 => ?_)
  refine w_ic_eq r_284_480 (fun _ => ?_) (fun q => absurd q (by exact fun z => z rfl))
  exact J h2 _ _ I2
theorem law_9 (hi : i ≤ 600) (hb : 6 * (i : Int) + 6 ≤ n) (hn : n ≤ 3072) (I : INV i h s n) (J : ∀ h2 Y5 Y6, INV (i + 1) h2 s n → XW 41 284 1593 [.ref 1000000, .ref 1, .ref 118, .ref 154, .int (iI (6 * (i : Int))), Y5, Y6] [] h2 Q) : XW 41 284 485 [.ref 1000000, .ref 1, .ref 118, .ref 154, .int (iI (6 * (i : Int))), X5, X6] [] h Q := by
  have kS := I.ks
  have hL := kS.1
  have hn6 : n ≤ 1000000 := by omega
  refine w_aload1 r_284_485 ?_
  refine w_aload0 r_284_486 ?_
  refine w_iload4 r_284_487 ?_
  refine w_iconst (v := iI (1)) r_284_489 rfl ?_
  refine v_iadd r_284_490 ?_
  refine v_iald r_284_491 kS.2.2.2.1 kS.2.2.2.2.1 hn6 (by omega) (scr_at kS _) ?_
  refine w_aload0 r_284_492 ?_
  refine w_iload4 r_284_493 ?_
  refine w_iconst (v := iI (2)) r_284_495 rfl ?_
  refine v_iadd r_284_496 ?_
  refine v_iald r_284_497 kS.2.2.2.1 kS.2.2.2.2.1 hn6 (by omega) (scr_at kS _) ?_
  refine k_126 r_284_498 (Lk_1 hL) (Nat.le_of_ble_eq_true rfl) ?_
  refine o_height hi (scr_in _ _) (scr_in _ _) I (fun r h1 md => ?_)
  have kS := md.1
  have hL := kS.1
  refine w_aload2 r_284_501 ?_
  refine w_aload0 r_284_502 ?_
  refine w_iload4 r_284_503 ?_
  refine w_iconst (v := iI (1)) r_284_505 rfl ?_
  refine v_iadd r_284_506 ?_
  refine v_iald r_284_507 kS.2.2.2.1 kS.2.2.2.2.1 hn6 (by omega) (scr_at kS _) ?_
  refine w_aload0 r_284_508 ?_
  refine w_iload4 r_284_509 ?_
  refine w_iconst (v := iI (2)) r_284_511 rfl ?_
  refine v_iadd r_284_512 ?_
  refine v_iald r_284_513 kS.2.2.2.1 kS.2.2.2.2.1 hn6 (by omega) (scr_at kS _) ?_
  refine k_199 r_284_514 (Lk_118 hL) (Nat.le_of_ble_eq_true rfl) ?_
  refine md.2 _ (fun h2 I2 => ?_)
  refine w_ic_eq r_284_517 (fun _ => ?_) (fun q => absurd q (by exact fun z => z rfl))
  exact J h2 _ _ I2
theorem law_10 (hi : i ≤ 600) (hb : 6 * (i : Int) + 6 ≤ n) (hn : n ≤ 3072) (I : INV i h s n) (J : ∀ h2 Y5 Y6, INV (i + 1) h2 s n → XW 41 284 1593 [.ref 1000000, .ref 1, .ref 118, .ref 154, .int (iI (6 * (i : Int))), Y5, Y6] [] h2 Q) : XW 41 284 522 [.ref 1000000, .ref 1, .ref 118, .ref 154, .int (iI (6 * (i : Int))), X5, X6] [] h Q := by
  have kS := I.ks
  have hL := kS.1
  have hn6 : n ≤ 1000000 := by omega
  refine w_aload1 r_284_522 ?_
  refine w_aload0 r_284_523 ?_
  refine w_iload4 r_284_524 ?_
  refine w_iconst (v := iI (1)) r_284_526 rfl ?_
  refine v_iadd r_284_527 ?_
  refine v_iald r_284_528 kS.2.2.2.1 kS.2.2.2.2.1 hn6 (by omega) (scr_at kS _) ?_
  refine w_aload0 r_284_529 ?_
  refine w_iload4 r_284_530 ?_
  refine w_iconst (v := iI (2)) r_284_532 rfl ?_
  refine v_iadd r_284_533 ?_
  refine v_iald r_284_534 kS.2.2.2.1 kS.2.2.2.2.1 hn6 (by omega) (scr_at kS _) ?_
  refine k_127 r_284_535 (Lk_1 hL) (Nat.le_of_ble_eq_true rfl) ?_
  refine o_ground hi (scr_in _ _) (scr_in _ _) I (fun r h1 md => ?_)
  have kS := md.1
  have hL := kS.1
  refine w_aload2 r_284_538 ?_
  refine w_aload0 r_284_539 ?_
  refine w_iload4 r_284_540 ?_
  refine w_iconst (v := iI (1)) r_284_542 rfl ?_
  refine v_iadd r_284_543 ?_
  refine v_iald r_284_544 kS.2.2.2.1 kS.2.2.2.2.1 hn6 (by omega) (scr_at kS _) ?_
  refine w_aload0 r_284_545 ?_
  refine w_iload4 r_284_546 ?_
  refine w_iconst (v := iI (2)) r_284_548 rfl ?_
  refine v_iadd r_284_549 ?_
  refine v_iald r_284_550 kS.2.2.2.1 kS.2.2.2.2.1 hn6 (by omega) (scr_at kS _) ?_
  refine k_200 r_284_551 (Lk_118 hL) (Nat.le_of_ble_eq_true rfl) ?_
  refine md.2 _ (fun h2 I2 => ?_)
  refine w_ic_eq r_284_554 (fun _ => ?_) (fun q => absurd q (by exact fun z => z rfl))
  exact J h2 _ _ I2
theorem law_11 (hi : i ≤ 600) (hb : 6 * (i : Int) + 6 ≤ n) (hn : n ≤ 3072) (I : INV i h s n) (J : ∀ h2 Y5 Y6, INV (i + 1) h2 s n → XW 41 284 1593 [.ref 1000000, .ref 1, .ref 118, .ref 154, .int (iI (6 * (i : Int))), Y5, Y6] [] h2 Q) : XW 41 284 559 [.ref 1000000, .ref 1, .ref 118, .ref 154, .int (iI (6 * (i : Int))), X5, X6] [] h Q := by
  have kS := I.ks
  have hL := kS.1
  have hn6 : n ≤ 1000000 := by omega
  refine w_aload1 r_284_559 ?_
  refine w_aload0 r_284_560 ?_
  refine w_iload4 r_284_561 ?_
  refine w_iconst (v := iI (1)) r_284_563 rfl ?_
  refine v_iadd r_284_564 ?_
  refine v_iald r_284_565 kS.2.2.2.1 kS.2.2.2.2.1 hn6 (by omega) (scr_at kS _) ?_
  refine k_128 r_284_566 (Lk_1 hL) (Nat.le_of_ble_eq_true rfl) ?_
  refine o_doubt hi (scr_in _ _) I (fun r h1 md => ?_)
  have kS := md.1
  have hL := kS.1
  refine w_aload2 r_284_569 ?_
  refine w_aload0 r_284_570 ?_
  refine w_iload4 r_284_571 ?_
  refine w_iconst (v := iI (1)) r_284_573 rfl ?_
  refine v_iadd r_284_574 ?_
  refine v_iald r_284_575 kS.2.2.2.1 kS.2.2.2.2.1 hn6 (by omega) (scr_at kS _) ?_
  refine k_201 r_284_576 (Lk_118 hL) (Nat.le_of_ble_eq_true rfl) ?_
  refine md.2 _ (fun h2 I2 => ?_)
  refine w_ic_eq r_284_579 (fun _ => ?_) (fun q => absurd q (by exact fun z => z rfl))
  exact J h2 _ _ I2
theorem law_12 (hi : i ≤ 600) (hb : 6 * (i : Int) + 6 ≤ n) (hn : n ≤ 3072) (I : INV i h s n) (J : ∀ h2 Y5 Y6, INV (i + 1) h2 s n → XW 41 284 1593 [.ref 1000000, .ref 1, .ref 118, .ref 154, .int (iI (6 * (i : Int))), Y5, Y6] [] h2 Q) : XW 41 284 584 [.ref 1000000, .ref 1, .ref 118, .ref 154, .int (iI (6 * (i : Int))), X5, X6] [] h Q := by
  have kS := I.ks
  have hL := kS.1
  have hn6 : n ≤ 1000000 := by omega
  refine w_aload1 r_284_584 ?_
  refine w_aload0 r_284_585 ?_
  refine w_iload4 r_284_586 ?_
  refine w_iconst (v := iI (1)) r_284_588 rfl ?_
  refine v_iadd r_284_589 ?_
  refine v_iald r_284_590 kS.2.2.2.1 kS.2.2.2.2.1 hn6 (by omega) (scr_at kS _) ?_
  refine w_aload0 r_284_591 ?_
  refine w_iload4 r_284_592 ?_
  refine w_iconst (v := iI (2)) r_284_594 rfl ?_
  refine v_iadd r_284_595 ?_
  refine v_iald r_284_596 kS.2.2.2.1 kS.2.2.2.2.1 hn6 (by omega) (scr_at kS _) ?_
  refine w_aload0 r_284_597 ?_
  refine w_iload4 r_284_598 ?_
  refine w_iconst (v := iI (3)) r_284_600 rfl ?_
  refine v_iadd r_284_601 ?_
  refine v_iald r_284_602 kS.2.2.2.1 kS.2.2.2.2.1 hn6 (by omega) (scr_at kS _) ?_
  refine k_129 r_284_603 (Lk_1 hL) (Nat.le_of_ble_eq_true rfl) ?_
  refine o_weigh hi (scr_in _ _) (scr_in _ _) (scr_in _ _) I (fun r h1 md => ?_)
  have kS := md.1
  have hL := kS.1
  refine w_aload2 r_284_606 ?_
  refine w_aload0 r_284_607 ?_
  refine w_iload4 r_284_608 ?_
  refine w_iconst (v := iI (1)) r_284_610 rfl ?_
  refine v_iadd r_284_611 ?_
  refine v_iald r_284_612 kS.2.2.2.1 kS.2.2.2.2.1 hn6 (by omega) (scr_at kS _) ?_
  refine w_aload0 r_284_613 ?_
  refine w_iload4 r_284_614 ?_
  refine w_iconst (v := iI (2)) r_284_616 rfl ?_
  refine v_iadd r_284_617 ?_
  refine v_iald r_284_618 kS.2.2.2.1 kS.2.2.2.2.1 hn6 (by omega) (scr_at kS _) ?_
  refine w_aload0 r_284_619 ?_
  refine w_iload4 r_284_620 ?_
  refine w_iconst (v := iI (3)) r_284_622 rfl ?_
  refine v_iadd r_284_623 ?_
  refine v_iald r_284_624 kS.2.2.2.1 kS.2.2.2.2.1 hn6 (by omega) (scr_at kS _) ?_
  refine k_202 r_284_625 (Lk_118 hL) (Nat.le_of_ble_eq_true rfl) ?_
  refine md.2 _ (fun h2 I2 => ?_)
  refine w_ic_eq r_284_628 (fun _ => ?_) (fun q => absurd q (by exact fun z => z rfl))
  exact J h2 _ _ I2
theorem law_13 (hi : i ≤ 600) (hb : 6 * (i : Int) + 6 ≤ n) (hn : n ≤ 3072) (I : INV i h s n) (J : ∀ h2 Y5 Y6, INV (i + 1) h2 s n → XW 41 284 1593 [.ref 1000000, .ref 1, .ref 118, .ref 154, .int (iI (6 * (i : Int))), Y5, Y6] [] h2 Q) : XW 41 284 633 [.ref 1000000, .ref 1, .ref 118, .ref 154, .int (iI (6 * (i : Int))), X5, X6] [] h Q := by
  have kS := I.ks
  have hL := kS.1
  have hn6 : n ≤ 1000000 := by omega
  refine w_aload1 r_284_633 ?_
  refine w_aload0 r_284_634 ?_
  refine w_iload4 r_284_635 ?_
  refine w_iconst (v := iI (1)) r_284_637 rfl ?_
  refine v_iadd r_284_638 ?_
  refine v_iald r_284_639 kS.2.2.2.1 kS.2.2.2.2.1 hn6 (by omega) (scr_at kS _) ?_
  refine w_aload0 r_284_640 ?_
  refine w_iload4 r_284_641 ?_
  refine w_iconst (v := iI (2)) r_284_643 rfl ?_
  refine v_iadd r_284_644 ?_
  refine v_iald r_284_645 kS.2.2.2.1 kS.2.2.2.2.1 hn6 (by omega) (scr_at kS _) ?_
  refine k_130 r_284_646 (Lk_1 hL) (Nat.le_of_ble_eq_true rfl) ?_
  refine o_told (scr_in _ _) (scr_in _ _) I (fun r h1 md => ?_)
  have kS := md.1
  have hL := kS.1
  refine w_aload2 r_284_649 ?_
  refine w_aload0 r_284_650 ?_
  refine w_iload4 r_284_651 ?_
  refine w_iconst (v := iI (1)) r_284_653 rfl ?_
  refine v_iadd r_284_654 ?_
  refine v_iald r_284_655 kS.2.2.2.1 kS.2.2.2.2.1 hn6 (by omega) (scr_at kS _) ?_
  refine w_aload0 r_284_656 ?_
  refine w_iload4 r_284_657 ?_
  refine w_iconst (v := iI (2)) r_284_659 rfl ?_
  refine v_iadd r_284_660 ?_
  refine v_iald r_284_661 kS.2.2.2.1 kS.2.2.2.2.1 hn6 (by omega) (scr_at kS _) ?_
  refine k_203 r_284_662 (Lk_118 hL) (Nat.le_of_ble_eq_true rfl) ?_
  refine md.2 _ (fun h2 I2 => ?_)
  refine w_ic_eq r_284_665 (fun _ => ?_) (fun q => absurd q (by exact fun z => z rfl))
  exact J h2 _ _ I2
theorem law_14 (hi : i ≤ 600) (hb : 6 * (i : Int) + 6 ≤ n) (hn : n ≤ 3072) (I : INV i h s n) (J : ∀ h2 Y5 Y6, INV (i + 1) h2 s n → XW 41 284 1593 [.ref 1000000, .ref 1, .ref 118, .ref 154, .int (iI (6 * (i : Int))), Y5, Y6] [] h2 Q) : XW 41 284 670 [.ref 1000000, .ref 1, .ref 118, .ref 154, .int (iI (6 * (i : Int))), X5, X6] [] h Q := by
  have kS := I.ks
  have hL := kS.1
  have hn6 : n ≤ 1000000 := by omega
  refine w_aload1 r_284_670 ?_
  refine w_aload0 r_284_671 ?_
  refine w_iload4 r_284_672 ?_
  refine w_iconst (v := iI (1)) r_284_674 rfl ?_
  refine v_iadd r_284_675 ?_
  refine v_iald r_284_676 kS.2.2.2.1 kS.2.2.2.2.1 hn6 (by omega) (scr_at kS _) ?_
  refine k_131 r_284_677 (Lk_1 hL) (Nat.le_of_ble_eq_true rfl) ?_
  refine o_forget (scr_in _ _) I (fun r h1 md => ?_)
  have kS := md.1
  have hL := kS.1
  refine w_aload2 r_284_680 ?_
  refine w_aload0 r_284_681 ?_
  refine w_iload4 r_284_682 ?_
  refine w_iconst (v := iI (1)) r_284_684 rfl ?_
  refine v_iadd r_284_685 ?_
  refine v_iald r_284_686 kS.2.2.2.1 kS.2.2.2.2.1 hn6 (by omega) (scr_at kS _) ?_
  refine k_204 r_284_687 (Lk_118 hL) (Nat.le_of_ble_eq_true rfl) ?_
  refine md.2 _ (fun h2 I2 => ?_)
  refine w_ic_eq r_284_690 (fun _ => ?_) (fun q => absurd q (by exact fun z => z rfl))
  exact J h2 _ _ I2
theorem law_15 (hi : i ≤ 600) (hb : 6 * (i : Int) + 6 ≤ n) (hn : n ≤ 3072) (I : INV i h s n) (J : ∀ h2 Y5 Y6, INV (i + 1) h2 s n → XW 41 284 1593 [.ref 1000000, .ref 1, .ref 118, .ref 154, .int (iI (6 * (i : Int))), Y5, Y6] [] h2 Q) : XW 41 284 695 [.ref 1000000, .ref 1, .ref 118, .ref 154, .int (iI (6 * (i : Int))), X5, X6] [] h Q := by
  have kS := I.ks
  have hL := kS.1
  have hn6 : n ≤ 1000000 := by omega
  refine w_aload1 r_284_695 ?_
  refine w_aload0 r_284_696 ?_
  refine w_iload4 r_284_697 ?_
  refine w_iconst (v := iI (1)) r_284_699 rfl ?_
  refine v_iadd r_284_700 ?_
  refine v_iald r_284_701 kS.2.2.2.1 kS.2.2.2.2.1 hn6 (by omega) (scr_at kS _) ?_
  refine w_aload0 r_284_702 ?_
  refine w_iload4 r_284_703 ?_
  refine w_iconst (v := iI (2)) r_284_705 rfl ?_
  refine v_iadd r_284_706 ?_
  refine v_iald r_284_707 kS.2.2.2.1 kS.2.2.2.2.1 hn6 (by omega) (scr_at kS _) ?_
  refine k_132 r_284_708 (Lk_1 hL) (Nat.le_of_ble_eq_true rfl) ?_
  refine o_of (scr_in _ _) (scr_in _ _) I (fun r h1 md => ?_)
  have kS := md.1
  have hL := kS.1
  refine w_aload2 r_284_711 ?_
  refine w_aload0 r_284_712 ?_
  refine w_iload4 r_284_713 ?_
  refine w_iconst (v := iI (1)) r_284_715 rfl ?_
  refine v_iadd r_284_716 ?_
  refine v_iald r_284_717 kS.2.2.2.1 kS.2.2.2.2.1 hn6 (by omega) (scr_at kS _) ?_
  refine w_aload0 r_284_718 ?_
  refine w_iload4 r_284_719 ?_
  refine w_iconst (v := iI (2)) r_284_721 rfl ?_
  refine v_iadd r_284_722 ?_
  refine v_iald r_284_723 kS.2.2.2.1 kS.2.2.2.2.1 hn6 (by omega) (scr_at kS _) ?_
  refine k_205 r_284_724 (Lk_118 hL) (Nat.le_of_ble_eq_true rfl) ?_
  refine md.2 _ (fun h2 I2 => ?_)
  refine w_ic_eq r_284_727 (fun _ => ?_) (fun q => absurd q (by exact fun z => z rfl))
  exact J h2 _ _ I2
theorem law_16 (hi : i ≤ 600) (hb : 6 * (i : Int) + 6 ≤ n) (hn : n ≤ 3072) (I : INV i h s n) (J : ∀ h2 Y5 Y6, INV (i + 1) h2 s n → XW 41 284 1593 [.ref 1000000, .ref 1, .ref 118, .ref 154, .int (iI (6 * (i : Int))), Y5, Y6] [] h2 Q) : XW 41 284 732 [.ref 1000000, .ref 1, .ref 118, .ref 154, .int (iI (6 * (i : Int))), X5, X6] [] h Q := by
  have kS := I.ks
  have hL := kS.1
  have hn6 : n ≤ 1000000 := by omega
  refine w_aload1 r_284_732 ?_
  refine w_aload0 r_284_733 ?_
  refine w_iload4 r_284_734 ?_
  refine w_iconst (v := iI (1)) r_284_736 rfl ?_
  refine v_iadd r_284_737 ?_
  refine v_iald r_284_738 kS.2.2.2.1 kS.2.2.2.2.1 hn6 (by omega) (scr_at kS _) ?_
  refine w_aload0 r_284_739 ?_
  refine w_iload4 r_284_740 ?_
  refine w_iconst (v := iI (2)) r_284_742 rfl ?_
  refine v_iadd r_284_743 ?_
  refine v_iald r_284_744 kS.2.2.2.1 kS.2.2.2.2.1 hn6 (by omega) (scr_at kS _) ?_
  refine w_aload0 r_284_745 ?_
  refine w_iload4 r_284_746 ?_
  refine w_iconst (v := iI (3)) r_284_748 rfl ?_
  refine v_iadd r_284_749 ?_
  refine v_iald r_284_750 kS.2.2.2.1 kS.2.2.2.2.1 hn6 (by omega) (scr_at kS _) ?_
  refine w_aload0 r_284_751 ?_
  refine w_iload4 r_284_752 ?_
  refine w_iconst (v := iI (4)) r_284_754 rfl ?_
  refine v_iadd r_284_755 ?_
  refine v_iald r_284_756 kS.2.2.2.1 kS.2.2.2.2.1 hn6 (by omega) (scr_at kS _) ?_
  refine k_134 r_284_757 (Lk_1 hL) (Nat.le_of_ble_eq_true rfl) ?_
  refine o_step (scr_in _ _) (scr_in _ _) (scr_in _ _) (scr_in _ _) I (fun r h1 md => ?_)
  have kS := md.1
  have hL := kS.1
  refine w_aload2 r_284_760 ?_
  refine w_aload0 r_284_761 ?_
  refine w_iload4 r_284_762 ?_
  refine w_iconst (v := iI (1)) r_284_764 rfl ?_
  refine v_iadd r_284_765 ?_
  refine v_iald r_284_766 kS.2.2.2.1 kS.2.2.2.2.1 hn6 (by omega) (scr_at kS _) ?_
  refine w_aload0 r_284_767 ?_
  refine w_iload4 r_284_768 ?_
  refine w_iconst (v := iI (2)) r_284_770 rfl ?_
  refine v_iadd r_284_771 ?_
  refine v_iald r_284_772 kS.2.2.2.1 kS.2.2.2.2.1 hn6 (by omega) (scr_at kS _) ?_
  refine w_aload0 r_284_773 ?_
  refine w_iload4 r_284_774 ?_
  refine w_iconst (v := iI (3)) r_284_776 rfl ?_
  refine v_iadd r_284_777 ?_
  refine v_iald r_284_778 kS.2.2.2.1 kS.2.2.2.2.1 hn6 (by omega) (scr_at kS _) ?_
  refine w_aload0 r_284_779 ?_
  refine w_iload4 r_284_780 ?_
  refine w_iconst (v := iI (4)) r_284_782 rfl ?_
  refine v_iadd r_284_783 ?_
  refine v_iald r_284_784 kS.2.2.2.1 kS.2.2.2.2.1 hn6 (by omega) (scr_at kS _) ?_
  refine k_211 r_284_785 (Lk_118 hL) (Nat.le_of_ble_eq_true rfl) ?_
  refine md.2 _ (fun h2 I2 => ?_)
  refine w_ic_eq r_284_788 (fun _ => ?_) (fun q => absurd q (by exact fun z => z rfl))
  exact J h2 _ _ I2
theorem law_17 (hi : i ≤ 600) (hb : 6 * (i : Int) + 6 ≤ n) (hn : n ≤ 3072) (I : INV i h s n) (J : ∀ h2 Y5 Y6, INV (i + 1) h2 s n → XW 41 284 1593 [.ref 1000000, .ref 1, .ref 118, .ref 154, .int (iI (6 * (i : Int))), Y5, Y6] [] h2 Q) : XW 41 284 793 [.ref 1000000, .ref 1, .ref 118, .ref 154, .int (iI (6 * (i : Int))), X5, X6] [] h Q := by
  have kS := I.ks
  have hL := kS.1
  have hn6 : n ≤ 1000000 := by omega
  refine w_aload1 r_284_793 ?_
  refine w_aload0 r_284_794 ?_
  refine w_iload4 r_284_795 ?_
  refine w_iconst (v := iI (1)) r_284_797 rfl ?_
  refine v_iadd r_284_798 ?_
  refine v_iald r_284_799 kS.2.2.2.1 kS.2.2.2.2.1 hn6 (by omega) (scr_at kS _) ?_
  refine w_aload0 r_284_800 ?_
  refine w_iload4 r_284_801 ?_
  refine w_iconst (v := iI (2)) r_284_803 rfl ?_
  refine v_iadd r_284_804 ?_
  refine v_iald r_284_805 kS.2.2.2.1 kS.2.2.2.2.1 hn6 (by omega) (scr_at kS _) ?_
  refine k_135 r_284_806 (Lk_1 hL) (Nat.le_of_ble_eq_true rfl) ?_
  refine o_worst hi (scr_in _ _) (scr_in _ _) I (fun r h1 md => ?_)
  have kS := md.1
  have hL := kS.1
  refine w_aload2 r_284_809 ?_
  refine w_aload0 r_284_810 ?_
  refine w_iload4 r_284_811 ?_
  refine w_iconst (v := iI (1)) r_284_813 rfl ?_
  refine v_iadd r_284_814 ?_
  refine v_iald r_284_815 kS.2.2.2.1 kS.2.2.2.2.1 hn6 (by omega) (scr_at kS _) ?_
  refine w_aload0 r_284_816 ?_
  refine w_iload4 r_284_817 ?_
  refine w_iconst (v := iI (2)) r_284_819 rfl ?_
  refine v_iadd r_284_820 ?_
  refine v_iald r_284_821 kS.2.2.2.1 kS.2.2.2.2.1 hn6 (by omega) (scr_at kS _) ?_
  refine k_229 r_284_822 (Lk_118 hL) (Nat.le_of_ble_eq_true rfl) ?_
  refine md.2 _ (fun h2 I2 => ?_)
  refine w_ic_eq r_284_825 (fun _ => ?_) (fun q => absurd q (by exact fun z => z rfl))
  exact J h2 _ _ I2
theorem law_18 (hi : i ≤ 600) (hb : 6 * (i : Int) + 6 ≤ n) (hn : n ≤ 3072) (I : INV i h s n) (J : ∀ h2 Y5 Y6, INV (i + 1) h2 s n → XW 41 284 1593 [.ref 1000000, .ref 1, .ref 118, .ref 154, .int (iI (6 * (i : Int))), Y5, Y6] [] h2 Q) : XW 41 284 830 [.ref 1000000, .ref 1, .ref 118, .ref 154, .int (iI (6 * (i : Int))), X5, X6] [] h Q := by
  have kS := I.ks
  have hL := kS.1
  have hn6 : n ≤ 1000000 := by omega
  by_cases z0 : scr s (6 * (i : Int) + 3) = 0
  · refine w_aload1 r_284_830 ?_
    refine w_aload0 r_284_831 ?_
    refine w_iload4 r_284_832 ?_
    refine w_iconst (v := iI (1)) r_284_834 rfl ?_
    refine v_iadd r_284_835 ?_
    refine v_iald r_284_836 kS.2.2.2.1 kS.2.2.2.2.1 hn6 (by omega) (scr_at kS _) ?_
    refine w_aload0 r_284_837 ?_
    refine w_iload4 r_284_838 ?_
    refine w_iconst (v := iI (2)) r_284_840 rfl ?_
    refine v_iadd r_284_841 ?_
    refine v_iald r_284_842 kS.2.2.2.1 kS.2.2.2.2.1 hn6 (by omega) (scr_at kS _) ?_
    refine w_aload0 r_284_843 ?_
    refine w_iload4 r_284_844 ?_
    refine w_iconst (v := iI (3)) r_284_846 rfl ?_
    refine v_iadd r_284_847 ?_
    refine v_iald r_284_848 kS.2.2.2.1 kS.2.2.2.2.1 hn6 (by omega) (scr_at kS _) ?_
    refine v_if_eq r_284_849 (scr_in _ _) (fun _ => ?_) (fun q => absurd q (by omega))
    refine w_iconst (v := iI (0)) r_284_856 rfl ?_
    refine k_136 r_284_857 (Lk_1 hL) (Nat.le_of_ble_eq_true rfl) ?_
    refine o_mean (z := false) hi (scr_in _ _) (scr_in _ _) I (fun r h1 md => ?_)
    have kS := md.1
    have hL := kS.1
    refine w_aload2 r_284_860 ?_
    refine w_aload0 r_284_861 ?_
    refine w_iload4 r_284_862 ?_
    refine w_iconst (v := iI (1)) r_284_864 rfl ?_
    refine v_iadd r_284_865 ?_
    refine v_iald r_284_866 kS.2.2.2.1 kS.2.2.2.2.1 hn6 (by omega) (scr_at kS _) ?_
    refine w_aload0 r_284_867 ?_
    refine w_iload4 r_284_868 ?_
    refine w_iconst (v := iI (2)) r_284_870 rfl ?_
    refine v_iadd r_284_871 ?_
    refine v_iald r_284_872 kS.2.2.2.1 kS.2.2.2.2.1 hn6 (by omega) (scr_at kS _) ?_
    refine w_aload0 r_284_873 ?_
    refine w_iload4 r_284_874 ?_
    refine w_iconst (v := iI (3)) r_284_876 rfl ?_
    refine v_iadd r_284_877 ?_
    refine v_iald r_284_878 kS.2.2.2.1 kS.2.2.2.2.1 hn6 (by omega) (scr_at kS _) ?_
    refine v_if_eq r_284_879 (scr_in _ _) (fun _ => ?_) (fun q => absurd q (by omega))
    refine w_iconst (v := iI (0)) r_284_886 rfl ?_
    refine k_232 r_284_887 (Lk_118 hL) (Nat.le_of_ble_eq_true rfl) ?_
    refine md.2 _ (fun h2 I2 => ?_)
    refine w_lcmp r_284_890 ?_
    refine w_if_eq r_284_891 (fun _ => ?_) (fun q => absurd q (by exact fun z => z (lg_self _)))
    exact J h2 _ _ I2
  · refine w_aload1 r_284_830 ?_
    refine w_aload0 r_284_831 ?_
    refine w_iload4 r_284_832 ?_
    refine w_iconst (v := iI (1)) r_284_834 rfl ?_
    refine v_iadd r_284_835 ?_
    refine v_iald r_284_836 kS.2.2.2.1 kS.2.2.2.2.1 hn6 (by omega) (scr_at kS _) ?_
    refine w_aload0 r_284_837 ?_
    refine w_iload4 r_284_838 ?_
    refine w_iconst (v := iI (2)) r_284_840 rfl ?_
    refine v_iadd r_284_841 ?_
    refine v_iald r_284_842 kS.2.2.2.1 kS.2.2.2.2.1 hn6 (by omega) (scr_at kS _) ?_
    refine w_aload0 r_284_843 ?_
    refine w_iload4 r_284_844 ?_
    refine w_iconst (v := iI (3)) r_284_846 rfl ?_
    refine v_iadd r_284_847 ?_
    refine v_iald r_284_848 kS.2.2.2.1 kS.2.2.2.2.1 hn6 (by omega) (scr_at kS _) ?_
    refine v_if_eq r_284_849 (scr_in _ _) (fun q => absurd q (by omega)) (fun _ => ?_)
    refine w_iconst (v := iI (1)) r_284_852 rfl ?_
    refine w_goto r_284_853 ?_
    refine k_136 r_284_857 (Lk_1 hL) (Nat.le_of_ble_eq_true rfl) ?_
    refine o_mean (z := true) hi (scr_in _ _) (scr_in _ _) I (fun r h1 md => ?_)
    have kS := md.1
    have hL := kS.1
    refine w_aload2 r_284_860 ?_
    refine w_aload0 r_284_861 ?_
    refine w_iload4 r_284_862 ?_
    refine w_iconst (v := iI (1)) r_284_864 rfl ?_
    refine v_iadd r_284_865 ?_
    refine v_iald r_284_866 kS.2.2.2.1 kS.2.2.2.2.1 hn6 (by omega) (scr_at kS _) ?_
    refine w_aload0 r_284_867 ?_
    refine w_iload4 r_284_868 ?_
    refine w_iconst (v := iI (2)) r_284_870 rfl ?_
    refine v_iadd r_284_871 ?_
    refine v_iald r_284_872 kS.2.2.2.1 kS.2.2.2.2.1 hn6 (by omega) (scr_at kS _) ?_
    refine w_aload0 r_284_873 ?_
    refine w_iload4 r_284_874 ?_
    refine w_iconst (v := iI (3)) r_284_876 rfl ?_
    refine v_iadd r_284_877 ?_
    refine v_iald r_284_878 kS.2.2.2.1 kS.2.2.2.2.1 hn6 (by omega) (scr_at kS _) ?_
    refine v_if_eq r_284_879 (scr_in _ _) (fun q => absurd q (by omega)) (fun _ => ?_)
    refine w_iconst (v := iI (1)) r_284_882 rfl ?_
    refine w_goto r_284_883 ?_
    refine k_232 r_284_887 (Lk_118 hL) (Nat.le_of_ble_eq_true rfl) ?_
    refine md.2 _ (fun h2 I2 => ?_)
    refine w_lcmp r_284_890 ?_
    refine w_if_eq r_284_891 (fun _ => ?_) (fun q => absurd q (by exact fun z => z (lg_self _)))
    exact J h2 _ _ I2
theorem law_19 (hi : i ≤ 600) (hb : 6 * (i : Int) + 6 ≤ n) (hn : n ≤ 3072) (I : INV i h s n) (J : ∀ h2 Y5 Y6, INV (i + 1) h2 s n → XW 41 284 1593 [.ref 1000000, .ref 1, .ref 118, .ref 154, .int (iI (6 * (i : Int))), Y5, Y6] [] h2 Q) : XW 41 284 896 [.ref 1000000, .ref 1, .ref 118, .ref 154, .int (iI (6 * (i : Int))), X5, X6] [] h Q := by
  have kS := I.ks
  have hL := kS.1
  have hn6 : n ≤ 1000000 := by omega
  by_cases z0 : scr s (6 * (i : Int) + 3) = 0
  · refine w_aload1 r_284_896 ?_
    refine w_aload0 r_284_897 ?_
    refine w_iload4 r_284_898 ?_
    refine w_iconst (v := iI (1)) r_284_900 rfl ?_
    refine v_iadd r_284_901 ?_
    refine v_iald r_284_902 kS.2.2.2.1 kS.2.2.2.2.1 hn6 (by omega) (scr_at kS _) ?_
    refine w_aload0 r_284_903 ?_
    refine w_iload4 r_284_904 ?_
    refine w_iconst (v := iI (2)) r_284_906 rfl ?_
    refine v_iadd r_284_907 ?_
    refine v_iald r_284_908 kS.2.2.2.1 kS.2.2.2.2.1 hn6 (by omega) (scr_at kS _) ?_
    refine w_aload0 r_284_909 ?_
    refine w_iload4 r_284_910 ?_
    refine w_iconst (v := iI (3)) r_284_912 rfl ?_
    refine v_iadd r_284_913 ?_
    refine v_iald r_284_914 kS.2.2.2.1 kS.2.2.2.2.1 hn6 (by omega) (scr_at kS _) ?_
    refine v_if_eq r_284_915 (scr_in _ _) (fun _ => ?_) (fun q => absurd q (by omega))
    refine w_iconst (v := iI (0)) r_284_922 rfl ?_
    refine k_137 r_284_923 (Lk_1 hL) (Nat.le_of_ble_eq_true rfl) ?_
    refine o_way (z := false) hi (scr_in _ _) (scr_in _ _) I (fun r h1 md => ?_)
    have kS := md.1
    have hL := kS.1
    refine w_aload2 r_284_926 ?_
    refine w_aload0 r_284_927 ?_
    refine w_iload4 r_284_928 ?_
    refine w_iconst (v := iI (1)) r_284_930 rfl ?_
    refine v_iadd r_284_931 ?_
    refine v_iald r_284_932 kS.2.2.2.1 kS.2.2.2.2.1 hn6 (by omega) (scr_at kS _) ?_
    refine w_aload0 r_284_933 ?_
    refine w_iload4 r_284_934 ?_
    refine w_iconst (v := iI (2)) r_284_936 rfl ?_
    refine v_iadd r_284_937 ?_
    refine v_iald r_284_938 kS.2.2.2.1 kS.2.2.2.2.1 hn6 (by omega) (scr_at kS _) ?_
    refine w_aload0 r_284_939 ?_
    refine w_iload4 r_284_940 ?_
    refine w_iconst (v := iI (3)) r_284_942 rfl ?_
    refine v_iadd r_284_943 ?_
    refine v_iald r_284_944 kS.2.2.2.1 kS.2.2.2.2.1 hn6 (by omega) (scr_at kS _) ?_
    refine v_if_eq r_284_945 (scr_in _ _) (fun _ => ?_) (fun q => absurd q (by omega))
    refine w_iconst (v := iI (0)) r_284_952 rfl ?_
    refine k_234 r_284_953 (Lk_118 hL) (Nat.le_of_ble_eq_true rfl) ?_
    refine md.2 _ (fun h2 I2 => ?_)
    refine w_ic_eq r_284_956 (fun _ => ?_) (fun q => absurd q (by exact fun z => z rfl))
    exact J h2 _ _ I2
  · refine w_aload1 r_284_896 ?_
    refine w_aload0 r_284_897 ?_
    refine w_iload4 r_284_898 ?_
    refine w_iconst (v := iI (1)) r_284_900 rfl ?_
    refine v_iadd r_284_901 ?_
    refine v_iald r_284_902 kS.2.2.2.1 kS.2.2.2.2.1 hn6 (by omega) (scr_at kS _) ?_
    refine w_aload0 r_284_903 ?_
    refine w_iload4 r_284_904 ?_
    refine w_iconst (v := iI (2)) r_284_906 rfl ?_
    refine v_iadd r_284_907 ?_
    refine v_iald r_284_908 kS.2.2.2.1 kS.2.2.2.2.1 hn6 (by omega) (scr_at kS _) ?_
    refine w_aload0 r_284_909 ?_
    refine w_iload4 r_284_910 ?_
    refine w_iconst (v := iI (3)) r_284_912 rfl ?_
    refine v_iadd r_284_913 ?_
    refine v_iald r_284_914 kS.2.2.2.1 kS.2.2.2.2.1 hn6 (by omega) (scr_at kS _) ?_
    refine v_if_eq r_284_915 (scr_in _ _) (fun q => absurd q (by omega)) (fun _ => ?_)
    refine w_iconst (v := iI (1)) r_284_918 rfl ?_
    refine w_goto r_284_919 ?_
    refine k_137 r_284_923 (Lk_1 hL) (Nat.le_of_ble_eq_true rfl) ?_
    refine o_way (z := true) hi (scr_in _ _) (scr_in _ _) I (fun r h1 md => ?_)
    have kS := md.1
    have hL := kS.1
    refine w_aload2 r_284_926 ?_
    refine w_aload0 r_284_927 ?_
    refine w_iload4 r_284_928 ?_
    refine w_iconst (v := iI (1)) r_284_930 rfl ?_
    refine v_iadd r_284_931 ?_
    refine v_iald r_284_932 kS.2.2.2.1 kS.2.2.2.2.1 hn6 (by omega) (scr_at kS _) ?_
    refine w_aload0 r_284_933 ?_
    refine w_iload4 r_284_934 ?_
    refine w_iconst (v := iI (2)) r_284_936 rfl ?_
    refine v_iadd r_284_937 ?_
    refine v_iald r_284_938 kS.2.2.2.1 kS.2.2.2.2.1 hn6 (by omega) (scr_at kS _) ?_
    refine w_aload0 r_284_939 ?_
    refine w_iload4 r_284_940 ?_
    refine w_iconst (v := iI (3)) r_284_942 rfl ?_
    refine v_iadd r_284_943 ?_
    refine v_iald r_284_944 kS.2.2.2.1 kS.2.2.2.2.1 hn6 (by omega) (scr_at kS _) ?_
    refine v_if_eq r_284_945 (scr_in _ _) (fun q => absurd q (by omega)) (fun _ => ?_)
    refine w_iconst (v := iI (1)) r_284_948 rfl ?_
    refine w_goto r_284_949 ?_
    refine k_234 r_284_953 (Lk_118 hL) (Nat.le_of_ble_eq_true rfl) ?_
    refine md.2 _ (fun h2 I2 => ?_)
    refine w_ic_eq r_284_956 (fun _ => ?_) (fun q => absurd q (by exact fun z => z rfl))
    exact J h2 _ _ I2
theorem law_20 (hi : i ≤ 600) (hb : 6 * (i : Int) + 6 ≤ n) (hn : n ≤ 3072) (I : INV i h s n) (J : ∀ h2 Y5 Y6, INV (i + 1) h2 s n → XW 41 284 1593 [.ref 1000000, .ref 1, .ref 118, .ref 154, .int (iI (6 * (i : Int))), Y5, Y6] [] h2 Q) : XW 41 284 961 [.ref 1000000, .ref 1, .ref 118, .ref 154, .int (iI (6 * (i : Int))), X5, X6] [] h Q := by
  have kS := I.ks
  have hL := kS.1
  have hn6 : n ≤ 1000000 := by omega
  refine w_aload1 r_284_961 ?_
  refine k_138 r_284_962 (Lk_1 hL) (Nat.le_of_ble_eq_true rfl) ?_
  refine o_truths I (fun r h1 md => ?_)
  have kS := md.1
  have hL := kS.1
  refine w_aload2 r_284_965 ?_
  refine k_236 r_284_966 (Lk_118 hL) (Nat.le_of_ble_eq_true rfl) ?_
  refine md.2 _ (fun h2 I2 => ?_)
  refine w_ic_eq r_284_969 (fun _ => ?_) (fun q => absurd q (by exact fun z => z rfl))
  exact J h2 _ _ I2
theorem law_21 (hi : i ≤ 600) (hb : 6 * (i : Int) + 6 ≤ n) (hn : n ≤ 3072) (I : INV i h s n) (J : ∀ h2 Y5 Y6, INV (i + 1) h2 s n → XW 41 284 1593 [.ref 1000000, .ref 1, .ref 118, .ref 154, .int (iI (6 * (i : Int))), Y5, Y6] [] h2 Q) : XW 41 284 974 [.ref 1000000, .ref 1, .ref 118, .ref 154, .int (iI (6 * (i : Int))), X5, X6] [] h Q := by
  have kS := I.ks
  have hL := kS.1
  have hn6 : n ≤ 1000000 := by omega
  refine w_aload1 r_284_974 ?_
  refine w_aload0 r_284_975 ?_
  refine w_iload4 r_284_976 ?_
  refine w_iconst (v := iI (1)) r_284_978 rfl ?_
  refine v_iadd r_284_979 ?_
  refine v_iald r_284_980 kS.2.2.2.1 kS.2.2.2.2.1 hn6 (by omega) (scr_at kS _) ?_
  refine w_aload0 r_284_981 ?_
  refine w_iload4 r_284_982 ?_
  refine w_iconst (v := iI (2)) r_284_984 rfl ?_
  refine v_iadd r_284_985 ?_
  refine v_iald r_284_986 kS.2.2.2.1 kS.2.2.2.2.1 hn6 (by omega) (scr_at kS _) ?_
  refine k_139 r_284_987 (Lk_1 hL) (Nat.le_of_ble_eq_true rfl) ?_
  refine o_truth (scr_in _ _) (scr_in _ _) I (fun r h1 md => ?_)
  have kS := md.1
  have hL := kS.1
  refine w_aload2 r_284_990 ?_
  refine w_aload0 r_284_991 ?_
  refine w_iload4 r_284_992 ?_
  refine w_iconst (v := iI (1)) r_284_994 rfl ?_
  refine v_iadd r_284_995 ?_
  refine v_iald r_284_996 kS.2.2.2.1 kS.2.2.2.2.1 hn6 (by omega) (scr_at kS _) ?_
  refine w_aload0 r_284_997 ?_
  refine w_iload4 r_284_998 ?_
  refine w_iconst (v := iI (2)) r_284_1000 rfl ?_
  refine v_iadd r_284_1001 ?_
  refine v_iald r_284_1002 kS.2.2.2.1 kS.2.2.2.2.1 hn6 (by omega) (scr_at kS _) ?_
  refine k_238 r_284_1003 (Lk_118 hL) (Nat.le_of_ble_eq_true rfl) ?_
  refine md.2 _ (fun h2 I2 => ?_)
  refine w_ic_eq r_284_1006 (fun _ => ?_) (fun q => absurd q (by exact fun z => z rfl))
  exact J h2 _ _ I2
theorem law_22 (hi : i ≤ 600) (hb : 6 * (i : Int) + 6 ≤ n) (hn : n ≤ 3072) (I : INV i h s n) (J : ∀ h2 Y5 Y6, INV (i + 1) h2 s n → XW 41 284 1593 [.ref 1000000, .ref 1, .ref 118, .ref 154, .int (iI (6 * (i : Int))), Y5, Y6] [] h2 Q) : XW 41 284 1011 [.ref 1000000, .ref 1, .ref 118, .ref 154, .int (iI (6 * (i : Int))), X5, X6] [] h Q := by
  have kS := I.ks
  have hL := kS.1
  have hn6 : n ≤ 1000000 := by omega
  by_cases z0 : scr s (6 * (i : Int) + 3) = 0
  · refine w_aload1 r_284_1011 ?_
    refine w_aload0 r_284_1012 ?_
    refine w_iload4 r_284_1013 ?_
    refine w_iconst (v := iI (1)) r_284_1015 rfl ?_
    refine v_iadd r_284_1016 ?_
    refine v_iald r_284_1017 kS.2.2.2.1 kS.2.2.2.2.1 hn6 (by omega) (scr_at kS _) ?_
    refine w_aload0 r_284_1018 ?_
    refine w_iload4 r_284_1019 ?_
    refine w_iconst (v := iI (2)) r_284_1021 rfl ?_
    refine v_iadd r_284_1022 ?_
    refine v_iald r_284_1023 kS.2.2.2.1 kS.2.2.2.2.1 hn6 (by omega) (scr_at kS _) ?_
    refine w_aload0 r_284_1024 ?_
    refine w_iload4 r_284_1025 ?_
    refine w_iconst (v := iI (3)) r_284_1027 rfl ?_
    refine v_iadd r_284_1028 ?_
    refine v_iald r_284_1029 kS.2.2.2.1 kS.2.2.2.2.1 hn6 (by omega) (scr_at kS _) ?_
    refine v_if_eq r_284_1030 (scr_in _ _) (fun _ => ?_) (fun q => absurd q (by omega))
    refine w_iconst (v := iI (0)) r_284_1037 rfl ?_
    refine w_aload0 r_284_1038 ?_
    refine w_iload4 r_284_1039 ?_
    refine w_iconst (v := iI (4)) r_284_1041 rfl ?_
    refine v_iadd r_284_1042 ?_
    refine v_iald r_284_1043 kS.2.2.2.1 kS.2.2.2.2.1 hn6 (by omega) (scr_at kS _) ?_
    refine k_140 r_284_1044 (Lk_1 hL) (Nat.le_of_ble_eq_true rfl) ?_
    refine o_run (z := false) hi (scr_in _ _) (scr_in _ _) (scr_in _ _) I (fun r h1 md => ?_)
    have kS := md.1
    have hL := kS.1
    refine w_aload2 r_284_1047 ?_
    refine w_aload0 r_284_1048 ?_
    refine w_iload4 r_284_1049 ?_
    refine w_iconst (v := iI (1)) r_284_1051 rfl ?_
    refine v_iadd r_284_1052 ?_
    refine v_iald r_284_1053 kS.2.2.2.1 kS.2.2.2.2.1 hn6 (by omega) (scr_at kS _) ?_
    refine w_aload0 r_284_1054 ?_
    refine w_iload4 r_284_1055 ?_
    refine w_iconst (v := iI (2)) r_284_1057 rfl ?_
    refine v_iadd r_284_1058 ?_
    refine v_iald r_284_1059 kS.2.2.2.1 kS.2.2.2.2.1 hn6 (by omega) (scr_at kS _) ?_
    refine w_aload0 r_284_1060 ?_
    refine w_iload4 r_284_1061 ?_
    refine w_iconst (v := iI (3)) r_284_1063 rfl ?_
    refine v_iadd r_284_1064 ?_
    refine v_iald r_284_1065 kS.2.2.2.1 kS.2.2.2.2.1 hn6 (by omega) (scr_at kS _) ?_
    refine v_if_eq r_284_1066 (scr_in _ _) (fun _ => ?_) (fun q => absurd q (by omega))
    refine w_iconst (v := iI (0)) r_284_1073 rfl ?_
    refine w_aload0 r_284_1074 ?_
    refine w_iload4 r_284_1075 ?_
    refine w_iconst (v := iI (4)) r_284_1077 rfl ?_
    refine v_iadd r_284_1078 ?_
    refine v_iald r_284_1079 kS.2.2.2.1 kS.2.2.2.2.1 hn6 (by omega) (scr_at kS _) ?_
    refine k_241 r_284_1080 (Lk_118 hL) (Nat.le_of_ble_eq_true rfl) ?_
    refine md.2 _ (fun h2 I2 => ?_)
    refine w_ic_eq r_284_1083 (fun _ => ?_) (fun q => absurd q (by exact fun z => z rfl))
    exact J h2 _ _ I2
  · refine w_aload1 r_284_1011 ?_
    refine w_aload0 r_284_1012 ?_
    refine w_iload4 r_284_1013 ?_
    refine w_iconst (v := iI (1)) r_284_1015 rfl ?_
    refine v_iadd r_284_1016 ?_
    refine v_iald r_284_1017 kS.2.2.2.1 kS.2.2.2.2.1 hn6 (by omega) (scr_at kS _) ?_
    refine w_aload0 r_284_1018 ?_
    refine w_iload4 r_284_1019 ?_
    refine w_iconst (v := iI (2)) r_284_1021 rfl ?_
    refine v_iadd r_284_1022 ?_
    refine v_iald r_284_1023 kS.2.2.2.1 kS.2.2.2.2.1 hn6 (by omega) (scr_at kS _) ?_
    refine w_aload0 r_284_1024 ?_
    refine w_iload4 r_284_1025 ?_
    refine w_iconst (v := iI (3)) r_284_1027 rfl ?_
    refine v_iadd r_284_1028 ?_
    refine v_iald r_284_1029 kS.2.2.2.1 kS.2.2.2.2.1 hn6 (by omega) (scr_at kS _) ?_
    refine v_if_eq r_284_1030 (scr_in _ _) (fun q => absurd q (by omega)) (fun _ => ?_)
    refine w_iconst (v := iI (1)) r_284_1033 rfl ?_
    refine w_goto r_284_1034 ?_
    refine w_aload0 r_284_1038 ?_
    refine w_iload4 r_284_1039 ?_
    refine w_iconst (v := iI (4)) r_284_1041 rfl ?_
    refine v_iadd r_284_1042 ?_
    refine v_iald r_284_1043 kS.2.2.2.1 kS.2.2.2.2.1 hn6 (by omega) (scr_at kS _) ?_
    refine k_140 r_284_1044 (Lk_1 hL) (Nat.le_of_ble_eq_true rfl) ?_
    refine o_run (z := true) hi (scr_in _ _) (scr_in _ _) (scr_in _ _) I (fun r h1 md => ?_)
    have kS := md.1
    have hL := kS.1
    refine w_aload2 r_284_1047 ?_
    refine w_aload0 r_284_1048 ?_
    refine w_iload4 r_284_1049 ?_
    refine w_iconst (v := iI (1)) r_284_1051 rfl ?_
    refine v_iadd r_284_1052 ?_
    refine v_iald r_284_1053 kS.2.2.2.1 kS.2.2.2.2.1 hn6 (by omega) (scr_at kS _) ?_
    refine w_aload0 r_284_1054 ?_
    refine w_iload4 r_284_1055 ?_
    refine w_iconst (v := iI (2)) r_284_1057 rfl ?_
    refine v_iadd r_284_1058 ?_
    refine v_iald r_284_1059 kS.2.2.2.1 kS.2.2.2.2.1 hn6 (by omega) (scr_at kS _) ?_
    refine w_aload0 r_284_1060 ?_
    refine w_iload4 r_284_1061 ?_
    refine w_iconst (v := iI (3)) r_284_1063 rfl ?_
    refine v_iadd r_284_1064 ?_
    refine v_iald r_284_1065 kS.2.2.2.1 kS.2.2.2.2.1 hn6 (by omega) (scr_at kS _) ?_
    refine v_if_eq r_284_1066 (scr_in _ _) (fun q => absurd q (by omega)) (fun _ => ?_)
    refine w_iconst (v := iI (1)) r_284_1069 rfl ?_
    refine w_goto r_284_1070 ?_
    refine w_aload0 r_284_1074 ?_
    refine w_iload4 r_284_1075 ?_
    refine w_iconst (v := iI (4)) r_284_1077 rfl ?_
    refine v_iadd r_284_1078 ?_
    refine v_iald r_284_1079 kS.2.2.2.1 kS.2.2.2.2.1 hn6 (by omega) (scr_at kS _) ?_
    refine k_241 r_284_1080 (Lk_118 hL) (Nat.le_of_ble_eq_true rfl) ?_
    refine md.2 _ (fun h2 I2 => ?_)
    refine w_ic_eq r_284_1083 (fun _ => ?_) (fun q => absurd q (by exact fun z => z rfl))
    exact J h2 _ _ I2
theorem law_24 (hi : i ≤ 600) (hb : 6 * (i : Int) + 6 ≤ n) (hn : n ≤ 3072) (I : INV i h s n) (J : ∀ h2 Y5 Y6, INV (i + 1) h2 s n → XW 41 284 1593 [.ref 1000000, .ref 1, .ref 118, .ref 154, .int (iI (6 * (i : Int))), Y5, Y6] [] h2 Q) : XW 41 284 1144 [.ref 1000000, .ref 1, .ref 118, .ref 154, .int (iI (6 * (i : Int))), X5, X6] [] h Q := by
  have kS := I.ks
  have hL := kS.1
  have hn6 : n ≤ 1000000 := by omega
  refine w_aload1 r_284_1144 ?_
  refine w_aload0 r_284_1145 ?_
  refine w_iload4 r_284_1146 ?_
  refine w_iconst (v := iI (1)) r_284_1148 rfl ?_
  refine v_iadd r_284_1149 ?_
  refine v_iald r_284_1150 kS.2.2.2.1 kS.2.2.2.2.1 hn6 (by omega) (scr_at kS _) ?_
  refine w_aload0 r_284_1151 ?_
  refine w_iload4 r_284_1152 ?_
  refine w_iconst (v := iI (2)) r_284_1154 rfl ?_
  refine v_iadd r_284_1155 ?_
  refine v_iald r_284_1156 kS.2.2.2.1 kS.2.2.2.2.1 hn6 (by omega) (scr_at kS _) ?_
  refine k_142 r_284_1157 (Lk_1 hL) (Nat.le_of_ble_eq_true rfl) ?_
  refine o_regret hi (scr_in _ _) (scr_in _ _) I (fun r h1 md => ?_)
  have kS := md.1
  have hL := kS.1
  refine w_aload2 r_284_1160 ?_
  refine w_aload0 r_284_1161 ?_
  refine w_iload4 r_284_1162 ?_
  refine w_iconst (v := iI (1)) r_284_1164 rfl ?_
  refine v_iadd r_284_1165 ?_
  refine v_iald r_284_1166 kS.2.2.2.1 kS.2.2.2.2.1 hn6 (by omega) (scr_at kS _) ?_
  refine w_aload0 r_284_1167 ?_
  refine w_iload4 r_284_1168 ?_
  refine w_iconst (v := iI (2)) r_284_1170 rfl ?_
  refine v_iadd r_284_1171 ?_
  refine v_iald r_284_1172 kS.2.2.2.1 kS.2.2.2.2.1 hn6 (by omega) (scr_at kS _) ?_
  refine k_243 r_284_1173 (Lk_118 hL) (Nat.le_of_ble_eq_true rfl) ?_
  refine md.2 _ (fun h2 I2 => ?_)
  refine w_ic_eq r_284_1176 (fun _ => ?_) (fun q => absurd q (by exact fun z => z rfl))
  exact J h2 _ _ I2
theorem law_25 (hi : i ≤ 600) (hb : 6 * (i : Int) + 6 ≤ n) (hn : n ≤ 3072) (I : INV i h s n) (J : ∀ h2 Y5 Y6, INV (i + 1) h2 s n → XW 41 284 1593 [.ref 1000000, .ref 1, .ref 118, .ref 154, .int (iI (6 * (i : Int))), Y5, Y6] [] h2 Q) : XW 41 284 1181 [.ref 1000000, .ref 1, .ref 118, .ref 154, .int (iI (6 * (i : Int))), X5, X6] [] h Q := by
  have kS := I.ks
  have hL := kS.1
  have hn6 : n ≤ 1000000 := by omega
  by_cases z0 : scr s (6 * (i : Int) + 4) = 0
  · refine w_aload1 r_284_1181 ?_
    refine w_aload0 r_284_1182 ?_
    refine w_iload4 r_284_1183 ?_
    refine w_iconst (v := iI (1)) r_284_1185 rfl ?_
    refine v_iadd r_284_1186 ?_
    refine v_iald r_284_1187 kS.2.2.2.1 kS.2.2.2.2.1 hn6 (by omega) (scr_at kS _) ?_
    refine w_aload0 r_284_1188 ?_
    refine w_iload4 r_284_1189 ?_
    refine w_iconst (v := iI (2)) r_284_1191 rfl ?_
    refine v_iadd r_284_1192 ?_
    refine v_iald r_284_1193 kS.2.2.2.1 kS.2.2.2.2.1 hn6 (by omega) (scr_at kS _) ?_
    refine w_aload0 r_284_1194 ?_
    refine w_iload4 r_284_1195 ?_
    refine w_iconst (v := iI (3)) r_284_1197 rfl ?_
    refine v_iadd r_284_1198 ?_
    refine v_iald r_284_1199 kS.2.2.2.1 kS.2.2.2.2.1 hn6 (by omega) (scr_at kS _) ?_
    refine w_aload0 r_284_1200 ?_
    refine w_iload4 r_284_1201 ?_
    refine w_iconst (v := iI (4)) r_284_1203 rfl ?_
    refine v_iadd r_284_1204 ?_
    refine v_iald r_284_1205 kS.2.2.2.1 kS.2.2.2.2.1 hn6 (by omega) (scr_at kS _) ?_
    refine v_if_eq r_284_1206 (scr_in _ _) (fun _ => ?_) (fun q => absurd q (by omega))
    refine w_iconst (v := iI (0)) r_284_1213 rfl ?_
    refine k_143 r_284_1214 (Lk_1 hL) (Nat.le_of_ble_eq_true rfl) ?_
    refine o_worth (z := false) hi (scr_in _ _) (scr_in _ _) (scr_in _ _) I (fun r h1 md => ?_)
    have kS := md.1
    have hL := kS.1
    refine w_aload2 r_284_1217 ?_
    refine w_aload0 r_284_1218 ?_
    refine w_iload4 r_284_1219 ?_
    refine w_iconst (v := iI (1)) r_284_1221 rfl ?_
    refine v_iadd r_284_1222 ?_
    refine v_iald r_284_1223 kS.2.2.2.1 kS.2.2.2.2.1 hn6 (by omega) (scr_at kS _) ?_
    refine w_aload0 r_284_1224 ?_
    refine w_iload4 r_284_1225 ?_
    refine w_iconst (v := iI (2)) r_284_1227 rfl ?_
    refine v_iadd r_284_1228 ?_
    refine v_iald r_284_1229 kS.2.2.2.1 kS.2.2.2.2.1 hn6 (by omega) (scr_at kS _) ?_
    refine w_aload0 r_284_1230 ?_
    refine w_iload4 r_284_1231 ?_
    refine w_iconst (v := iI (3)) r_284_1233 rfl ?_
    refine v_iadd r_284_1234 ?_
    refine v_iald r_284_1235 kS.2.2.2.1 kS.2.2.2.2.1 hn6 (by omega) (scr_at kS _) ?_
    refine w_aload0 r_284_1236 ?_
    refine w_iload4 r_284_1237 ?_
    refine w_iconst (v := iI (4)) r_284_1239 rfl ?_
    refine v_iadd r_284_1240 ?_
    refine v_iald r_284_1241 kS.2.2.2.1 kS.2.2.2.2.1 hn6 (by omega) (scr_at kS _) ?_
    refine v_if_eq r_284_1242 (scr_in _ _) (fun _ => ?_) (fun q => absurd q (by omega))
    refine w_iconst (v := iI (0)) r_284_1249 rfl ?_
    refine k_244 r_284_1250 (Lk_118 hL) (Nat.le_of_ble_eq_true rfl) ?_
    refine md.2 _ (fun h2 I2 => ?_)
    refine w_lcmp r_284_1253 ?_
    refine w_if_eq r_284_1254 (fun _ => ?_) (fun q => absurd q (by exact fun z => z (lg_self _)))
    exact J h2 _ _ I2
  · refine w_aload1 r_284_1181 ?_
    refine w_aload0 r_284_1182 ?_
    refine w_iload4 r_284_1183 ?_
    refine w_iconst (v := iI (1)) r_284_1185 rfl ?_
    refine v_iadd r_284_1186 ?_
    refine v_iald r_284_1187 kS.2.2.2.1 kS.2.2.2.2.1 hn6 (by omega) (scr_at kS _) ?_
    refine w_aload0 r_284_1188 ?_
    refine w_iload4 r_284_1189 ?_
    refine w_iconst (v := iI (2)) r_284_1191 rfl ?_
    refine v_iadd r_284_1192 ?_
    refine v_iald r_284_1193 kS.2.2.2.1 kS.2.2.2.2.1 hn6 (by omega) (scr_at kS _) ?_
    refine w_aload0 r_284_1194 ?_
    refine w_iload4 r_284_1195 ?_
    refine w_iconst (v := iI (3)) r_284_1197 rfl ?_
    refine v_iadd r_284_1198 ?_
    refine v_iald r_284_1199 kS.2.2.2.1 kS.2.2.2.2.1 hn6 (by omega) (scr_at kS _) ?_
    refine w_aload0 r_284_1200 ?_
    refine w_iload4 r_284_1201 ?_
    refine w_iconst (v := iI (4)) r_284_1203 rfl ?_
    refine v_iadd r_284_1204 ?_
    refine v_iald r_284_1205 kS.2.2.2.1 kS.2.2.2.2.1 hn6 (by omega) (scr_at kS _) ?_
    refine v_if_eq r_284_1206 (scr_in _ _) (fun q => absurd q (by omega)) (fun _ => ?_)
    refine w_iconst (v := iI (1)) r_284_1209 rfl ?_
    refine w_goto r_284_1210 ?_
    refine k_143 r_284_1214 (Lk_1 hL) (Nat.le_of_ble_eq_true rfl) ?_
    refine o_worth (z := true) hi (scr_in _ _) (scr_in _ _) (scr_in _ _) I (fun r h1 md => ?_)
    have kS := md.1
    have hL := kS.1
    refine w_aload2 r_284_1217 ?_
    refine w_aload0 r_284_1218 ?_
    refine w_iload4 r_284_1219 ?_
    refine w_iconst (v := iI (1)) r_284_1221 rfl ?_
    refine v_iadd r_284_1222 ?_
    refine v_iald r_284_1223 kS.2.2.2.1 kS.2.2.2.2.1 hn6 (by omega) (scr_at kS _) ?_
    refine w_aload0 r_284_1224 ?_
    refine w_iload4 r_284_1225 ?_
    refine w_iconst (v := iI (2)) r_284_1227 rfl ?_
    refine v_iadd r_284_1228 ?_
    refine v_iald r_284_1229 kS.2.2.2.1 kS.2.2.2.2.1 hn6 (by omega) (scr_at kS _) ?_
    refine w_aload0 r_284_1230 ?_
    refine w_iload4 r_284_1231 ?_
    refine w_iconst (v := iI (3)) r_284_1233 rfl ?_
    refine v_iadd r_284_1234 ?_
    refine v_iald r_284_1235 kS.2.2.2.1 kS.2.2.2.2.1 hn6 (by omega) (scr_at kS _) ?_
    refine w_aload0 r_284_1236 ?_
    refine w_iload4 r_284_1237 ?_
    refine w_iconst (v := iI (4)) r_284_1239 rfl ?_
    refine v_iadd r_284_1240 ?_
    refine v_iald r_284_1241 kS.2.2.2.1 kS.2.2.2.2.1 hn6 (by omega) (scr_at kS _) ?_
    refine v_if_eq r_284_1242 (scr_in _ _) (fun q => absurd q (by omega)) (fun _ => ?_)
    refine w_iconst (v := iI (1)) r_284_1245 rfl ?_
    refine w_goto r_284_1246 ?_
    refine k_244 r_284_1250 (Lk_118 hL) (Nat.le_of_ble_eq_true rfl) ?_
    refine md.2 _ (fun h2 I2 => ?_)
    refine w_lcmp r_284_1253 ?_
    refine w_if_eq r_284_1254 (fun _ => ?_) (fun q => absurd q (by exact fun z => z (lg_self _)))
    exact J h2 _ _ I2
theorem law_26 (hi : i ≤ 600) (hb : 6 * (i : Int) + 6 ≤ n) (hn : n ≤ 3072) (I : INV i h s n) (J : ∀ h2 Y5 Y6, INV (i + 1) h2 s n → XW 41 284 1593 [.ref 1000000, .ref 1, .ref 118, .ref 154, .int (iI (6 * (i : Int))), Y5, Y6] [] h2 Q) : XW 41 284 1259 [.ref 1000000, .ref 1, .ref 118, .ref 154, .int (iI (6 * (i : Int))), X5, X6] [] h Q := by
  have kS := I.ks
  have hL := kS.1
  have hn6 : n ≤ 1000000 := by omega
  refine w_aload1 r_284_1259 ?_
  refine w_aload0 r_284_1260 ?_
  refine w_iload4 r_284_1261 ?_
  refine w_iconst (v := iI (1)) r_284_1263 rfl ?_
  refine v_iadd r_284_1264 ?_
  refine v_iald r_284_1265 kS.2.2.2.1 kS.2.2.2.2.1 hn6 (by omega) (scr_at kS _) ?_
  refine w_aload0 r_284_1266 ?_
  refine w_iload4 r_284_1267 ?_
  refine w_iconst (v := iI (2)) r_284_1269 rfl ?_
  refine v_iadd r_284_1270 ?_
  refine v_iald r_284_1271 kS.2.2.2.1 kS.2.2.2.2.1 hn6 (by omega) (scr_at kS _) ?_
  refine w_aload0 r_284_1272 ?_
  refine w_iload4 r_284_1273 ?_
  refine w_iconst (v := iI (3)) r_284_1275 rfl ?_
  refine v_iadd r_284_1276 ?_
  refine v_iald r_284_1277 kS.2.2.2.1 kS.2.2.2.2.1 hn6 (by omega) (scr_at kS _) ?_
  refine k_144 r_284_1278 (Lk_1 hL) (Nat.le_of_ble_eq_true rfl) ?_
  refine o_spared hi (scr_in _ _) (scr_in _ _) (scr_in _ _) I (fun r h1 md => ?_)
  have kS := md.1
  have hL := kS.1
  refine w_aload2 r_284_1281 ?_
  refine w_aload0 r_284_1282 ?_
  refine w_iload4 r_284_1283 ?_
  refine w_iconst (v := iI (1)) r_284_1285 rfl ?_
  refine v_iadd r_284_1286 ?_
  refine v_iald r_284_1287 kS.2.2.2.1 kS.2.2.2.2.1 hn6 (by omega) (scr_at kS _) ?_
  refine w_aload0 r_284_1288 ?_
  refine w_iload4 r_284_1289 ?_
  refine w_iconst (v := iI (2)) r_284_1291 rfl ?_
  refine v_iadd r_284_1292 ?_
  refine v_iald r_284_1293 kS.2.2.2.1 kS.2.2.2.2.1 hn6 (by omega) (scr_at kS _) ?_
  refine w_aload0 r_284_1294 ?_
  refine w_iload4 r_284_1295 ?_
  refine w_iconst (v := iI (3)) r_284_1297 rfl ?_
  refine v_iadd r_284_1298 ?_
  refine v_iald r_284_1299 kS.2.2.2.1 kS.2.2.2.2.1 hn6 (by omega) (scr_at kS _) ?_
  refine k_245 r_284_1300 (Lk_118 hL) (Nat.le_of_ble_eq_true rfl) ?_
  refine md.2 _ (fun h2 I2 => ?_)
  refine w_ic_eq r_284_1303 (fun _ => ?_) (fun q => absurd q (by exact fun z => z rfl))
  exact J h2 _ _ I2
theorem law_27 (hi : i ≤ 600) (hb : 6 * (i : Int) + 6 ≤ n) (hn : n ≤ 3072) (I : INV i h s n) (J : ∀ h2 Y5 Y6, INV (i + 1) h2 s n → XW 41 284 1593 [.ref 1000000, .ref 1, .ref 118, .ref 154, .int (iI (6 * (i : Int))), Y5, Y6] [] h2 Q) : XW 41 284 1308 [.ref 1000000, .ref 1, .ref 118, .ref 154, .int (iI (6 * (i : Int))), X5, X6] [] h Q := by
  have kS := I.ks
  have hL := kS.1
  have hn6 : n ≤ 1000000 := by omega
  refine w_aload1 r_284_1308 ?_
  refine w_aload0 r_284_1309 ?_
  refine w_iload4 r_284_1310 ?_
  refine w_iconst (v := iI (1)) r_284_1312 rfl ?_
  refine v_iadd r_284_1313 ?_
  refine v_iald r_284_1314 kS.2.2.2.1 kS.2.2.2.2.1 hn6 (by omega) (scr_at kS _) ?_
  refine w_aload0 r_284_1315 ?_
  refine w_iload4 r_284_1316 ?_
  refine w_iconst (v := iI (2)) r_284_1318 rfl ?_
  refine v_iadd r_284_1319 ?_
  refine v_iald r_284_1320 kS.2.2.2.1 kS.2.2.2.2.1 hn6 (by omega) (scr_at kS _) ?_
  refine w_aload0 r_284_1321 ?_
  refine w_iload4 r_284_1322 ?_
  refine w_iconst (v := iI (3)) r_284_1324 rfl ?_
  refine v_iadd r_284_1325 ?_
  refine v_iald r_284_1326 kS.2.2.2.1 kS.2.2.2.2.1 hn6 (by omega) (scr_at kS _) ?_
  refine w_aload0 r_284_1327 ?_
  refine w_iload4 r_284_1328 ?_
  refine w_iconst (v := iI (4)) r_284_1330 rfl ?_
  refine v_iadd r_284_1331 ?_
  refine v_iald r_284_1332 kS.2.2.2.1 kS.2.2.2.2.1 hn6 (by omega) (scr_at kS _) ?_
  refine k_145 r_284_1333 (Lk_1 hL) (Nat.le_of_ble_eq_true rfl) ?_
  refine o_failing (scr_in _ _) (scr_in _ _) (scr_in _ _) (scr_in _ _) I (fun r h1 md => ?_)
  have kS := md.1
  have hL := kS.1
  refine w_aload2 r_284_1336 ?_
  refine w_aload0 r_284_1337 ?_
  refine w_iload4 r_284_1338 ?_
  refine w_iconst (v := iI (1)) r_284_1340 rfl ?_
  refine v_iadd r_284_1341 ?_
  refine v_iald r_284_1342 kS.2.2.2.1 kS.2.2.2.2.1 hn6 (by omega) (scr_at kS _) ?_
  refine w_aload0 r_284_1343 ?_
  refine w_iload4 r_284_1344 ?_
  refine w_iconst (v := iI (2)) r_284_1346 rfl ?_
  refine v_iadd r_284_1347 ?_
  refine v_iald r_284_1348 kS.2.2.2.1 kS.2.2.2.2.1 hn6 (by omega) (scr_at kS _) ?_
  refine w_aload0 r_284_1349 ?_
  refine w_iload4 r_284_1350 ?_
  refine w_iconst (v := iI (3)) r_284_1352 rfl ?_
  refine v_iadd r_284_1353 ?_
  refine v_iald r_284_1354 kS.2.2.2.1 kS.2.2.2.2.1 hn6 (by omega) (scr_at kS _) ?_
  refine w_aload0 r_284_1355 ?_
  refine w_iload4 r_284_1356 ?_
  refine w_iconst (v := iI (4)) r_284_1358 rfl ?_
  refine v_iadd r_284_1359 ?_
  refine v_iald r_284_1360 kS.2.2.2.1 kS.2.2.2.2.1 hn6 (by omega) (scr_at kS _) ?_
  refine k_253 r_284_1361 (Lk_118 hL) (Nat.le_of_ble_eq_true rfl) ?_
  refine md.2 _ (fun h2 I2 => ?_)
  refine w_ic_eq r_284_1364 (fun _ => ?_) (fun q => absurd q (by exact fun z => z rfl))
  exact J h2 _ _ I2
theorem law_28 (hi : i ≤ 600) (hb : 6 * (i : Int) + 6 ≤ n) (hn : n ≤ 3072) (I : INV i h s n) (J : ∀ h2 Y5 Y6, INV (i + 1) h2 s n → XW 41 284 1593 [.ref 1000000, .ref 1, .ref 118, .ref 154, .int (iI (6 * (i : Int))), Y5, Y6] [] h2 Q) : XW 41 284 1369 [.ref 1000000, .ref 1, .ref 118, .ref 154, .int (iI (6 * (i : Int))), X5, X6] [] h Q := by
  have kS := I.ks
  have hL := kS.1
  have hn6 : n ≤ 1000000 := by omega
  refine w_aload1 r_284_1369 ?_
  refine w_aload0 r_284_1370 ?_
  refine w_iload4 r_284_1371 ?_
  refine w_iconst (v := iI (1)) r_284_1373 rfl ?_
  refine v_iadd r_284_1374 ?_
  refine v_iald r_284_1375 kS.2.2.2.1 kS.2.2.2.2.1 hn6 (by omega) (scr_at kS _) ?_
  refine k_146 r_284_1376 (Lk_1 hL) (Nat.le_of_ble_eq_true rfl) ?_
  refine o_first (scr_in _ _) I (fun r h1 md => ?_)
  have kS := md.1
  have hL := kS.1
  refine w_aload2 r_284_1379 ?_
  refine w_aload0 r_284_1380 ?_
  refine w_iload4 r_284_1381 ?_
  refine w_iconst (v := iI (1)) r_284_1383 rfl ?_
  refine v_iadd r_284_1384 ?_
  refine v_iald r_284_1385 kS.2.2.2.1 kS.2.2.2.2.1 hn6 (by omega) (scr_at kS _) ?_
  refine k_254 r_284_1386 (Lk_118 hL) (Nat.le_of_ble_eq_true rfl) ?_
  refine md.2 _ (fun h2 I2 => ?_)
  refine w_ic_eq r_284_1389 (fun _ => ?_) (fun q => absurd q (by exact fun z => z rfl))
  exact J h2 _ _ I2
theorem law_29 (hi : i ≤ 600) (hb : 6 * (i : Int) + 6 ≤ n) (hn : n ≤ 3072) (I : INV i h s n) (J : ∀ h2 Y5 Y6, INV (i + 1) h2 s n → XW 41 284 1593 [.ref 1000000, .ref 1, .ref 118, .ref 154, .int (iI (6 * (i : Int))), Y5, Y6] [] h2 Q) : XW 41 284 1394 [.ref 1000000, .ref 1, .ref 118, .ref 154, .int (iI (6 * (i : Int))), X5, X6] [] h Q := by
  have kS := I.ks
  have hL := kS.1
  have hn6 : n ≤ 1000000 := by omega
  refine w_aload1 r_284_1394 ?_
  refine w_aload0 r_284_1395 ?_
  refine w_iload4 r_284_1396 ?_
  refine w_iconst (v := iI (1)) r_284_1398 rfl ?_
  refine v_iadd r_284_1399 ?_
  refine v_iald r_284_1400 kS.2.2.2.1 kS.2.2.2.2.1 hn6 (by omega) (scr_at kS _) ?_
  refine w_aload0 r_284_1401 ?_
  refine w_iload4 r_284_1402 ?_
  refine w_iconst (v := iI (2)) r_284_1404 rfl ?_
  refine v_iadd r_284_1405 ?_
  refine v_iald r_284_1406 kS.2.2.2.1 kS.2.2.2.2.1 hn6 (by omega) (scr_at kS _) ?_
  refine w_aload0 r_284_1407 ?_
  refine w_iload4 r_284_1408 ?_
  refine w_iconst (v := iI (3)) r_284_1410 rfl ?_
  refine v_iadd r_284_1411 ?_
  refine v_iald r_284_1412 kS.2.2.2.1 kS.2.2.2.2.1 hn6 (by omega) (scr_at kS _) ?_
  refine k_147 r_284_1413 (Lk_1 hL) (Nat.le_of_ble_eq_true rfl) ?_
  refine o_costs (scr_in _ _) (scr_in _ _) (scr_in _ _) I (fun r h1 md => ?_)
  have kS := md.1
  have hL := kS.1
  refine w_aload2 r_284_1416 ?_
  refine w_aload0 r_284_1417 ?_
  refine w_iload4 r_284_1418 ?_
  refine w_iconst (v := iI (1)) r_284_1420 rfl ?_
  refine v_iadd r_284_1421 ?_
  refine v_iald r_284_1422 kS.2.2.2.1 kS.2.2.2.2.1 hn6 (by omega) (scr_at kS _) ?_
  refine w_aload0 r_284_1423 ?_
  refine w_iload4 r_284_1424 ?_
  refine w_iconst (v := iI (2)) r_284_1426 rfl ?_
  refine v_iadd r_284_1427 ?_
  refine v_iald r_284_1428 kS.2.2.2.1 kS.2.2.2.2.1 hn6 (by omega) (scr_at kS _) ?_
  refine w_aload0 r_284_1429 ?_
  refine w_iload4 r_284_1430 ?_
  refine w_iconst (v := iI (3)) r_284_1432 rfl ?_
  refine v_iadd r_284_1433 ?_
  refine v_iald r_284_1434 kS.2.2.2.1 kS.2.2.2.2.1 hn6 (by omega) (scr_at kS _) ?_
  refine k_255 r_284_1435 (Lk_118 hL) (Nat.le_of_ble_eq_true rfl) ?_
  refine md.2 _ (fun h2 I2 => ?_)
  refine w_ic_eq r_284_1438 (fun _ => ?_) (fun q => absurd q (by exact fun z => z rfl))
  exact J h2 _ _ I2
theorem law_30 (hi : i ≤ 600) (hb : 6 * (i : Int) + 6 ≤ n) (hn : n ≤ 3072) (I : INV i h s n) (J : ∀ h2 Y5 Y6, INV (i + 1) h2 s n → XW 41 284 1593 [.ref 1000000, .ref 1, .ref 118, .ref 154, .int (iI (6 * (i : Int))), Y5, Y6] [] h2 Q) : XW 41 284 1443 [.ref 1000000, .ref 1, .ref 118, .ref 154, .int (iI (6 * (i : Int))), X5, X6] [] h Q := by
  have kS := I.ks
  have hL := kS.1
  have hn6 : n ≤ 1000000 := by omega
  refine w_aload1 r_284_1443 ?_
  refine w_aload0 r_284_1444 ?_
  refine w_iload4 r_284_1445 ?_
  refine w_iconst (v := iI (1)) r_284_1447 rfl ?_
  refine v_iadd r_284_1448 ?_
  refine v_iald r_284_1449 kS.2.2.2.1 kS.2.2.2.2.1 hn6 (by omega) (scr_at kS _) ?_
  refine w_aload0 r_284_1450 ?_
  refine w_iload4 r_284_1451 ?_
  refine w_iconst (v := iI (2)) r_284_1453 rfl ?_
  refine v_iadd r_284_1454 ?_
  refine v_iald r_284_1455 kS.2.2.2.1 kS.2.2.2.2.1 hn6 (by omega) (scr_at kS _) ?_
  refine k_148 r_284_1456 (Lk_1 hL) (Nat.le_of_ble_eq_true rfl) ?_
  refine o_dig (scr_in _ _) (scr_in _ _) I (fun r h1 md => ?_)
  have kS := md.1
  have hL := kS.1
  refine w_aload2 r_284_1459 ?_
  refine w_aload0 r_284_1460 ?_
  refine w_iload4 r_284_1461 ?_
  refine w_iconst (v := iI (1)) r_284_1463 rfl ?_
  refine v_iadd r_284_1464 ?_
  refine v_iald r_284_1465 kS.2.2.2.1 kS.2.2.2.2.1 hn6 (by omega) (scr_at kS _) ?_
  refine w_aload0 r_284_1466 ?_
  refine w_iload4 r_284_1467 ?_
  refine w_iconst (v := iI (2)) r_284_1469 rfl ?_
  refine v_iadd r_284_1470 ?_
  refine v_iald r_284_1471 kS.2.2.2.1 kS.2.2.2.2.1 hn6 (by omega) (scr_at kS _) ?_
  refine k_256 r_284_1472 (Lk_118 hL) (Nat.le_of_ble_eq_true rfl) ?_
  refine md.2 _ (fun h2 I2 => ?_)
  refine w_ic_eq r_284_1475 (fun _ => ?_) (fun q => absurd q (by exact fun z => z rfl))
  exact J h2 _ _ I2
theorem law_31 (hi : i ≤ 600) (hb : 6 * (i : Int) + 6 ≤ n) (hn : n ≤ 3072) (I : INV i h s n) (J : ∀ h2 Y5 Y6, INV (i + 1) h2 s n → XW 41 284 1593 [.ref 1000000, .ref 1, .ref 118, .ref 154, .int (iI (6 * (i : Int))), Y5, Y6] [] h2 Q) : XW 41 284 1480 [.ref 1000000, .ref 1, .ref 118, .ref 154, .int (iI (6 * (i : Int))), X5, X6] [] h Q := by
  have kS := I.ks
  have hL := kS.1
  have hn6 : n ≤ 1000000 := by omega
  refine w_aload1 r_284_1480 ?_
  refine k_149 r_284_1481 (Lk_1 hL) (Nat.le_of_ble_eq_true rfl) ?_
  refine o_out hi I (fun r h1 md => ?_)
  have kS := md.1
  have hL := kS.1
  refine w_aload2 r_284_1484 ?_
  refine k_260 r_284_1485 (Lk_118 hL) (Nat.le_of_ble_eq_true rfl) ?_
  refine md.2 _ (fun h2 I2 => ?_)
  refine w_ic_eq r_284_1488 (fun _ => ?_) (fun q => absurd q (by exact fun z => z rfl))
  exact J h2 _ _ I2
theorem law_32 (hi : i ≤ 600) (hb : 6 * (i : Int) + 6 ≤ n) (hn : n ≤ 3072) (I : INV i h s n) (J : ∀ h2 Y5 Y6, INV (i + 1) h2 s n → XW 41 284 1593 [.ref 1000000, .ref 1, .ref 118, .ref 154, .int (iI (6 * (i : Int))), Y5, Y6] [] h2 Q) : XW 41 284 1493 [.ref 1000000, .ref 1, .ref 118, .ref 154, .int (iI (6 * (i : Int))), X5, X6] [] h Q := by
  have kS := I.ks
  have hL := kS.1
  have hn6 : n ≤ 1000000 := by omega
  refine w_aload1 r_284_1493 ?_
  refine w_aload0 r_284_1494 ?_
  refine w_iload4 r_284_1495 ?_
  refine w_iconst (v := iI (1)) r_284_1497 rfl ?_
  refine v_iadd r_284_1498 ?_
  refine v_iald r_284_1499 kS.2.2.2.1 kS.2.2.2.2.1 hn6 (by omega) (scr_at kS _) ?_
  refine k_150 r_284_1500 (Lk_1 hL) (Nat.le_of_ble_eq_true rfl) ?_
  refine o_tryAt hi (scr_in _ _) I (fun r h1 md => ?_)
  have kS := md.1
  have hL := kS.1
  refine w_aload2 r_284_1503 ?_
  refine w_aload0 r_284_1504 ?_
  refine w_iload4 r_284_1505 ?_
  refine w_iconst (v := iI (1)) r_284_1507 rfl ?_
  refine v_iadd r_284_1508 ?_
  refine v_iald r_284_1509 kS.2.2.2.1 kS.2.2.2.2.1 hn6 (by omega) (scr_at kS _) ?_
  refine k_261 r_284_1510 (Lk_118 hL) (Nat.le_of_ble_eq_true rfl) ?_
  refine md.2 _ (fun h2 I2 => ?_)
  refine w_ic_eq r_284_1513 (fun _ => ?_) (fun q => absurd q (by exact fun z => z rfl))
  exact J h2 _ _ I2
theorem law_33 (hi : i ≤ 600) (hb : 6 * (i : Int) + 6 ≤ n) (hn : n ≤ 3072) (I : INV i h s n) (J : ∀ h2 Y5 Y6, INV (i + 1) h2 s n → XW 41 284 1593 [.ref 1000000, .ref 1, .ref 118, .ref 154, .int (iI (6 * (i : Int))), Y5, Y6] [] h2 Q) : XW 41 284 1518 [.ref 1000000, .ref 1, .ref 118, .ref 154, .int (iI (6 * (i : Int))), X5, X6] [] h Q := by
  have kS := I.ks
  have hL := kS.1
  have hn6 : n ≤ 1000000 := by omega
  refine w_aload1 r_284_1518 ?_
  refine w_aload0 r_284_1519 ?_
  refine w_iload4 r_284_1520 ?_
  refine w_iconst (v := iI (1)) r_284_1522 rfl ?_
  refine v_iadd r_284_1523 ?_
  refine v_iald r_284_1524 kS.2.2.2.1 kS.2.2.2.2.1 hn6 (by omega) (scr_at kS _) ?_
  refine w_aload0 r_284_1525 ?_
  refine w_iload4 r_284_1526 ?_
  refine w_iconst (v := iI (2)) r_284_1528 rfl ?_
  refine v_iadd r_284_1529 ?_
  refine v_iald r_284_1530 kS.2.2.2.1 kS.2.2.2.2.1 hn6 (by omega) (scr_at kS _) ?_
  refine k_151 r_284_1531 (Lk_1 hL) (Nat.le_of_ble_eq_true rfl) ?_
  refine o_make (scr_in _ _) (scr_in _ _) I (fun r h1 md => ?_)
  have kS := md.1
  have hL := kS.1
  refine w_aload2 r_284_1534 ?_
  refine w_aload0 r_284_1535 ?_
  refine w_iload4 r_284_1536 ?_
  refine w_iconst (v := iI (1)) r_284_1538 rfl ?_
  refine v_iadd r_284_1539 ?_
  refine v_iald r_284_1540 kS.2.2.2.1 kS.2.2.2.2.1 hn6 (by omega) (scr_at kS _) ?_
  refine w_aload0 r_284_1541 ?_
  refine w_iload4 r_284_1542 ?_
  refine w_iconst (v := iI (2)) r_284_1544 rfl ?_
  refine v_iadd r_284_1545 ?_
  refine v_iald r_284_1546 kS.2.2.2.1 kS.2.2.2.2.1 hn6 (by omega) (scr_at kS _) ?_
  refine k_263 r_284_1547 (Lk_118 hL) (Nat.le_of_ble_eq_true rfl) ?_
  refine md.2 _ (fun h2 I2 => ?_)
  refine w_ic_eq r_284_1550 (fun _ => ?_) (fun q => absurd q (by exact fun z => z rfl))
  exact J h2 _ _ I2
theorem law_34 (hi : i ≤ 600) (hb : 6 * (i : Int) + 6 ≤ n) (hn : n ≤ 3072) (I : INV i h s n) (J : ∀ h2 Y5 Y6, INV (i + 1) h2 s n → XW 41 284 1593 [.ref 1000000, .ref 1, .ref 118, .ref 154, .int (iI (6 * (i : Int))), Y5, Y6] [] h2 Q) : XW 41 284 1555 [.ref 1000000, .ref 1, .ref 118, .ref 154, .int (iI (6 * (i : Int))), X5, X6] [] h Q := by
  have kS := I.ks
  have hL := kS.1
  have hn6 : n ≤ 1000000 := by omega
  refine w_aload1 r_284_1555 ?_
  refine w_aload0 r_284_1556 ?_
  refine w_iload4 r_284_1557 ?_
  refine w_iconst (v := iI (1)) r_284_1559 rfl ?_
  refine v_iadd r_284_1560 ?_
  refine v_iald r_284_1561 kS.2.2.2.1 kS.2.2.2.2.1 hn6 (by omega) (scr_at kS _) ?_
  refine k_152 r_284_1562 (Lk_1 hL) (Nat.le_of_ble_eq_true rfl) ?_
  refine o_count (scr_in _ _) I (fun r h1 md => ?_)
  have kS := md.1
  have hL := kS.1
  refine w_aload2 r_284_1565 ?_
  refine w_aload0 r_284_1566 ?_
  refine w_iload4 r_284_1567 ?_
  refine w_iconst (v := iI (1)) r_284_1569 rfl ?_
  refine v_iadd r_284_1570 ?_
  refine v_iald r_284_1571 kS.2.2.2.1 kS.2.2.2.2.1 hn6 (by omega) (scr_at kS _) ?_
  refine k_264 r_284_1572 (Lk_118 hL) (Nat.le_of_ble_eq_true rfl) ?_
  refine md.2 _ (fun h2 I2 => ?_)
  refine w_ic_eq r_284_1575 (fun _ => ?_) (fun q => absurd q (by exact fun z => z rfl))
  exact J h2 _ _ I2
theorem law_35 (hi : i ≤ 600) (hb : 6 * (i : Int) + 6 ≤ n) (hn : n ≤ 3072) (I : INV i h s n) (J : ∀ h2 Y5 Y6, INV (i + 1) h2 s n → XW 41 284 1593 [.ref 1000000, .ref 1, .ref 118, .ref 154, .int (iI (6 * (i : Int))), Y5, Y6] [] h2 Q) : XW 41 284 1580 [.ref 1000000, .ref 1, .ref 118, .ref 154, .int (iI (6 * (i : Int))), X5, X6] [] h Q := by
  have kS := I.ks
  have hL := kS.1
  have hn6 : n ≤ 1000000 := by omega
  refine w_aload1 r_284_1580 ?_
  refine k_153 r_284_1581 (Lk_1 hL) (Nat.le_of_ble_eq_true rfl) ?_
  refine o_trouble I (fun r h1 md => ?_)
  have kS := md.1
  have hL := kS.1
  refine w_aload2 r_284_1584 ?_
  refine k_265 r_284_1585 (Lk_118 hL) (Nat.le_of_ble_eq_true rfl) ?_
  refine md.2 _ (fun h2 I2 => ?_)
  refine w_ic_eq r_284_1588 (fun _ => ?_) (fun q => absurd q (by exact fun z => z rfl))
  exact J h2 _ _ I2
end LAW
