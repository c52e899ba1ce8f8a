section LAWC1
variable {p : Program} {l : Launch} {e : Env} {s : State} {m : MethodId} {below : List Frame} {meth : Method} {c : Code} {H : Heap} {locs : List Loc} {Q : State → Prop} {D : va_G} {ad sx : Nat → Nat} {ca : Nat → ClassId} {w : Wd} {ls : Array Slot} {b L : Nat} {xs : Nat → Int32}
set_option maxHeartbeats 1000000 in
theorem lc_flat (X : Lw D ad sx ca p s m c b L xs) (S : St D ad ca s w H locs) (hI : Inv w) {i : Nat} (hl : lv_has ls 4 (lvL ad b i)) (hi6 : i + 6 ≤ L) (kk : ∀ (w2 : Wd) (H1 : Heap) (locs1 : List Loc), Inv w2 → St D ad ca s w2 H1 locs1 → WL p l e s m b below meth c H1 locs1 Q (F0 m 1387 ls [])) : WL p l e s m b below meth c H locs Q (F0 m 200 ls []) := by
  obtain ⟨r, w1, w2, e1, e2, hI2⟩ := op_flat hI ((xs (i + 1))) ((xs (i + 2))) ((xs (i + 3)))
  refine lv_aload_n X.1.1 X.1.2.1 dL_200 rfl (lv_at hl 2 rfl) ?_
  refine q_arg X S hl 1 (by omega) (by decide) dL_201 dL_202 dL_203 dL_204 dL_205 ?_
  refine q_arg X S hl 2 (by omega) (by decide) dL_206 dL_207 dL_208 dL_209 dL_210 ?_
  refine q_arg X S hl 3 (by omega) (by decide) dL_211 dL_212 dL_213 dL_214 dL_215 ?_
  refine q_vi X.1 S hl o_0 cf_10 (k_X10_flat e1) vb_X10_flat [.int (xs (i + 1)), .int (xs (i + 2)), .int (xs (i + 3))] rfl [] rfl rfl (Nat.le_of_ble_eq_true rfl) ⟨(Nat.le_of_ble_eq_true rfl), (Nat.le_of_ble_eq_true rfl)⟩ ⟨(Nat.le_of_ble_eq_true rfl), (Nat.le_of_ble_eq_true rfl)⟩ dL_216 (fun H locs S => ?_)
  refine lv_aload_n X.1.1 X.1.2.1 dL_219 rfl (lv_at hl 1 rfl) ?_
  refine q_arg X S hl 1 (by omega) (by decide) dL_220 dL_221 dL_222 dL_223 dL_224 ?_
  refine q_arg X S hl 2 (by omega) (by decide) dL_225 dL_226 dL_227 dL_228 dL_229 ?_
  refine q_arg X S hl 3 (by omega) (by decide) dL_230 dL_231 dL_232 dL_233 dL_234 ?_
  refine q_vi X.1 S hl o_76 cf_11 (k_X11_flat e2) vb_X11_flat [.int (xs (i + 1)), .int (xs (i + 2)), .int (xs (i + 3))] rfl [.int r] rfl rfl (Nat.le_of_ble_eq_true rfl) ⟨(Nat.le_of_ble_eq_true rfl), (Nat.le_of_ble_eq_true rfl)⟩ ⟨(Nat.le_of_ble_eq_true rfl), (Nat.le_of_ble_eq_true rfl)⟩ dL_235 (fun H locs S => ?_)
  refine lv_icmp_eq (tgt := 1387) X.1.1 X.1.2.1 dL_238 (by decide) (fun _ => kk w2 H locs hI2 S) (fun z => absurd rfl z)
set_option maxHeartbeats 1000000 in
theorem lc_of (X : Lw D ad sx ca p s m c b L xs) (S : St D ad ca s w H locs) (hI : Inv w) {i : Nat} (hl : lv_has ls 4 (lvL ad b i)) (hi6 : i + 6 ≤ L) (kk : ∀ (w2 : Wd) (H1 : Heap) (locs1 : List Loc), Inv w2 → St D ad ca s w2 H1 locs1 → WL p l e s m b below meth c H1 locs1 Q (F0 m 1387 ls [])) : WL p l e s m b below meth c H locs Q (F0 m 243 ls []) := by
  obtain ⟨r, w1, w2, e1, e2, hI2⟩ := op_of hI ((xs (i + 1))) ((xs (i + 2)))
  refine lv_aload_n X.1.1 X.1.2.1 dL_243 rfl (lv_at hl 2 rfl) ?_
  refine q_arg X S hl 1 (by omega) (by decide) dL_244 dL_245 dL_246 dL_247 dL_248 ?_
  refine q_arg X S hl 2 (by omega) (by decide) dL_249 dL_250 dL_251 dL_252 dL_253 ?_
  refine q_vi X.1 S hl o_0 cf_10 (k_X10_of e1) vb_X10_of [.int (xs (i + 1)), .int (xs (i + 2))] rfl [] rfl rfl (Nat.le_of_ble_eq_true rfl) ⟨(Nat.le_of_ble_eq_true rfl), (Nat.le_of_ble_eq_true rfl)⟩ ⟨(Nat.le_of_ble_eq_true rfl), (Nat.le_of_ble_eq_true rfl)⟩ dL_254 (fun H locs S => ?_)
  refine lv_aload_n X.1.1 X.1.2.1 dL_257 rfl (lv_at hl 1 rfl) ?_
  refine q_arg X S hl 1 (by omega) (by decide) dL_258 dL_259 dL_260 dL_261 dL_262 ?_
  refine q_arg X S hl 2 (by omega) (by decide) dL_263 dL_264 dL_265 dL_266 dL_267 ?_
  refine q_vi X.1 S hl o_76 cf_11 (k_X11_of e2) vb_X11_of [.int (xs (i + 1)), .int (xs (i + 2))] rfl [.int r] rfl rfl (Nat.le_of_ble_eq_true rfl) ⟨(Nat.le_of_ble_eq_true rfl), (Nat.le_of_ble_eq_true rfl)⟩ ⟨(Nat.le_of_ble_eq_true rfl), (Nat.le_of_ble_eq_true rfl)⟩ dL_268 (fun H locs S => ?_)
  refine lv_icmp_eq (tgt := 1387) X.1.1 X.1.2.1 dL_271 (by decide) (fun _ => kk w2 H locs hI2 S) (fun z => absurd rfl z)
set_option maxHeartbeats 1000000 in
theorem lc_as (X : Lw D ad sx ca p s m c b L xs) (S : St D ad ca s w H locs) (hI : Inv w) {i : Nat} (hl : lv_has ls 4 (lvL ad b i)) (hi6 : i + 6 ≤ L) (kk : ∀ (w2 : Wd) (H1 : Heap) (locs1 : List Loc), Inv w2 → St D ad ca s w2 H1 locs1 → WL p l e s m b below meth c H1 locs1 Q (F0 m 1387 ls [])) : WL p l e s m b below meth c H locs Q (F0 m 276 ls []) := by
  obtain ⟨r, w1, w2, e1, e2, hI2⟩ := op_as hI ((xs (i + 1))) ((xs (i + 2)))
  refine lv_aload_n X.1.1 X.1.2.1 dL_276 rfl (lv_at hl 2 rfl) ?_
  refine q_arg X S hl 1 (by omega) (by decide) dL_277 dL_278 dL_279 dL_280 dL_281 ?_
  refine q_arg X S hl 2 (by omega) (by decide) dL_282 dL_283 dL_284 dL_285 dL_286 ?_
  refine q_vi X.1 S hl o_0 cf_10 (k_X10_as e1) vb_X10_as [.int (xs (i + 1)), .int (xs (i + 2))] rfl [] rfl rfl (Nat.le_of_ble_eq_true rfl) ⟨(Nat.le_of_ble_eq_true rfl), (Nat.le_of_ble_eq_true rfl)⟩ ⟨(Nat.le_of_ble_eq_true rfl), (Nat.le_of_ble_eq_true rfl)⟩ dL_287 (fun H locs S => ?_)
  refine lv_aload_n X.1.1 X.1.2.1 dL_290 rfl (lv_at hl 1 rfl) ?_
  refine q_arg X S hl 1 (by omega) (by decide) dL_291 dL_292 dL_293 dL_294 dL_295 ?_
  refine q_arg X S hl 2 (by omega) (by decide) dL_296 dL_297 dL_298 dL_299 dL_300 ?_
  refine q_vi X.1 S hl o_76 cf_11 (k_X11_as e2) vb_X11_as [.int (xs (i + 1)), .int (xs (i + 2))] rfl [.int r] rfl rfl (Nat.le_of_ble_eq_true rfl) ⟨(Nat.le_of_ble_eq_true rfl), (Nat.le_of_ble_eq_true rfl)⟩ ⟨(Nat.le_of_ble_eq_true rfl), (Nat.le_of_ble_eq_true rfl)⟩ dL_301 (fun H locs S => ?_)
  refine lv_icmp_eq (tgt := 1387) X.1.1 X.1.2.1 dL_304 (by decide) (fun _ => kk w2 H locs hI2 S) (fun z => absurd rfl z)
set_option maxHeartbeats 1000000 in
theorem lc_set (X : Lw D ad sx ca p s m c b L xs) (S : St D ad ca s w H locs) (hI : Inv w) {i : Nat} (hl : lv_has ls 4 (lvL ad b i)) (hi6 : i + 6 ≤ L) (kk : ∀ (w2 : Wd) (H1 : Heap) (locs1 : List Loc), Inv w2 → St D ad ca s w2 H1 locs1 → WL p l e s m b below meth c H1 locs1 Q (F0 m 1387 ls [])) : WL p l e s m b below meth c H locs Q (F0 m 309 ls []) := by
  obtain ⟨r, w1, w2, e1, e2, hI2⟩ := op_set hI ((xs (i + 1))) ((xs (i + 2)))
  refine lv_aload_n X.1.1 X.1.2.1 dL_309 rfl (lv_at hl 2 rfl) ?_
  refine q_arg X S hl 1 (by omega) (by decide) dL_310 dL_311 dL_312 dL_313 dL_314 ?_
  refine q_arg X S hl 2 (by omega) (by decide) dL_315 dL_316 dL_317 dL_318 dL_319 ?_
  refine q_vi X.1 S hl o_0 cf_10 (k_X10_set e1) vb_X10_set [.int (xs (i + 1)), .int (xs (i + 2))] rfl [] rfl rfl (Nat.le_of_ble_eq_true rfl) ⟨(Nat.le_of_ble_eq_true rfl), (Nat.le_of_ble_eq_true rfl)⟩ ⟨(Nat.le_of_ble_eq_true rfl), (Nat.le_of_ble_eq_true rfl)⟩ dL_320 (fun H locs S => ?_)
  refine lv_aload_n X.1.1 X.1.2.1 dL_323 rfl (lv_at hl 1 rfl) ?_
  refine q_arg X S hl 1 (by omega) (by decide) dL_324 dL_325 dL_326 dL_327 dL_328 ?_
  refine q_arg X S hl 2 (by omega) (by decide) dL_329 dL_330 dL_331 dL_332 dL_333 ?_
  refine q_vi X.1 S hl o_76 cf_11 (k_X11_set e2) vb_X11_set [.int (xs (i + 1)), .int (xs (i + 2))] rfl [.int r] rfl rfl (Nat.le_of_ble_eq_true rfl) ⟨(Nat.le_of_ble_eq_true rfl), (Nat.le_of_ble_eq_true rfl)⟩ ⟨(Nat.le_of_ble_eq_true rfl), (Nat.le_of_ble_eq_true rfl)⟩ dL_334 (fun H locs S => ?_)
  refine lv_icmp_eq (tgt := 1387) X.1.1 X.1.2.1 dL_337 (by decide) (fun _ => kk w2 H locs hI2 S) (fun z => absurd rfl z)
set_option maxHeartbeats 1000000 in
theorem lc_turn (X : Lw D ad sx ca p s m c b L xs) (S : St D ad ca s w H locs) (hI : Inv w) {i : Nat} (hl : lv_has ls 4 (lvL ad b i)) (hi6 : i + 6 ≤ L) (kk : ∀ (w2 : Wd) (H1 : Heap) (locs1 : List Loc), Inv w2 → St D ad ca s w2 H1 locs1 → WL p l e s m b below meth c H1 locs1 Q (F0 m 1387 ls [])) : WL p l e s m b below meth c H locs Q (F0 m 342 ls []) := by
  obtain ⟨r, w1, w2, e1, e2, hI2⟩ := op_turn hI ((xs (i + 1))) ((xs (i + 2)))
  refine lv_aload_n X.1.1 X.1.2.1 dL_342 rfl (lv_at hl 2 rfl) ?_
  refine q_arg X S hl 1 (by omega) (by decide) dL_343 dL_344 dL_345 dL_346 dL_347 ?_
  refine q_arg X S hl 2 (by omega) (by decide) dL_348 dL_349 dL_350 dL_351 dL_352 ?_
  refine q_vi X.1 S hl o_0 cf_10 (k_X10_turn e1) vb_X10_turn [.int (xs (i + 1)), .int (xs (i + 2))] rfl [] rfl rfl (Nat.le_of_ble_eq_true rfl) ⟨(Nat.le_of_ble_eq_true rfl), (Nat.le_of_ble_eq_true rfl)⟩ ⟨(Nat.le_of_ble_eq_true rfl), (Nat.le_of_ble_eq_true rfl)⟩ dL_353 (fun H locs S => ?_)
  refine lv_aload_n X.1.1 X.1.2.1 dL_356 rfl (lv_at hl 1 rfl) ?_
  refine q_arg X S hl 1 (by omega) (by decide) dL_357 dL_358 dL_359 dL_360 dL_361 ?_
  refine q_arg X S hl 2 (by omega) (by decide) dL_362 dL_363 dL_364 dL_365 dL_366 ?_
  refine q_vi X.1 S hl o_76 cf_11 (k_X11_turn e2) vb_X11_turn [.int (xs (i + 1)), .int (xs (i + 2))] rfl [.int r] rfl rfl (Nat.le_of_ble_eq_true rfl) ⟨(Nat.le_of_ble_eq_true rfl), (Nat.le_of_ble_eq_true rfl)⟩ ⟨(Nat.le_of_ble_eq_true rfl), (Nat.le_of_ble_eq_true rfl)⟩ dL_367 (fun H locs S => ?_)
  refine lv_icmp_eq (tgt := 1387) X.1.1 X.1.2.1 dL_370 (by decide) (fun _ => kk w2 H locs hI2 S) (fun z => absurd rfl z)
set_option maxHeartbeats 1000000 in
theorem lc_hold (X : Lw D ad sx ca p s m c b L xs) (S : St D ad ca s w H locs) (hI : Inv w) {i : Nat} (hl : lv_has ls 4 (lvL ad b i)) (hi6 : i + 6 ≤ L) (kk : ∀ (w2 : Wd) (H1 : Heap) (locs1 : List Loc), Inv w2 → St D ad ca s w2 H1 locs1 → WL p l e s m b below meth c H1 locs1 Q (F0 m 1387 ls [])) : WL p l e s m b below meth c H locs Q (F0 m 375 ls []) := by
  by_cases hz : xs (i + 2) = 0
  · obtain ⟨r, w1, w2, e1, e2, hI2⟩ := op_hold hI ((xs (i + 1))) (0) (Or.inl rfl)
    refine lv_aload_n X.1.1 X.1.2.1 dL_375 rfl (lv_at hl 2 rfl) ?_
    refine q_arg X S hl 1 (by omega) (by decide) dL_376 dL_377 dL_378 dL_379 dL_380 ?_
    refine q_arg X S hl 2 (by omega) (by decide) dL_381 dL_382 dL_383 dL_384 dL_385 ?_
    refine lv_if_eq (tgt := 393) X.1.1 X.1.2.1 dL_386 (by decide) (fun _ => ?_) (fun z => absurd hz z)
    refine lv_iconst (v := 0) X.1.1 X.1.2.1 dL_393 (by decide) ?_
    refine q_vi X.1 S hl o_0 cf_10 (k_X10_hold e1) vb_X10_hold [.int (xs (i + 1)), .int 0] rfl [] rfl rfl (Nat.le_of_ble_eq_true rfl) ⟨(Nat.le_of_ble_eq_true rfl), (Nat.le_of_ble_eq_true rfl)⟩ ⟨(Nat.le_of_ble_eq_true rfl), (Nat.le_of_ble_eq_true rfl)⟩ dL_394 (fun H locs S => ?_)
    refine lv_aload_n X.1.1 X.1.2.1 dL_397 rfl (lv_at hl 1 rfl) ?_
    refine q_arg X S hl 1 (by omega) (by decide) dL_398 dL_399 dL_400 dL_401 dL_402 ?_
    refine q_arg X S hl 2 (by omega) (by decide) dL_403 dL_404 dL_405 dL_406 dL_407 ?_
    refine lv_if_eq (tgt := 415) X.1.1 X.1.2.1 dL_408 (by decide) (fun _ => ?_) (fun z => absurd hz z)
    refine lv_iconst (v := 0) X.1.1 X.1.2.1 dL_415 (by decide) ?_
    refine q_vi X.1 S hl o_76 cf_11 (k_X11_hold e2) vb_X11_hold [.int (xs (i + 1)), .int 0] rfl [.int r] rfl rfl (Nat.le_of_ble_eq_true rfl) ⟨(Nat.le_of_ble_eq_true rfl), (Nat.le_of_ble_eq_true rfl)⟩ ⟨(Nat.le_of_ble_eq_true rfl), (Nat.le_of_ble_eq_true rfl)⟩ dL_416 (fun H locs S => ?_)
    refine lv_icmp_eq (tgt := 1387) X.1.1 X.1.2.1 dL_419 (by decide) (fun _ => kk w2 H locs hI2 S) (fun z => absurd rfl z)
  · obtain ⟨r, w1, w2, e1, e2, hI2⟩ := op_hold hI ((xs (i + 1))) (1) (Or.inr rfl)
    refine lv_aload_n X.1.1 X.1.2.1 dL_375 rfl (lv_at hl 2 rfl) ?_
    refine q_arg X S hl 1 (by omega) (by decide) dL_376 dL_377 dL_378 dL_379 dL_380 ?_
    refine q_arg X S hl 2 (by omega) (by decide) dL_381 dL_382 dL_383 dL_384 dL_385 ?_
    refine lv_if_eq (tgt := 393) X.1.1 X.1.2.1 dL_386 (by decide) (fun z => absurd z hz) (fun _ => ?_)
    refine lv_iconst (v := 1) X.1.1 X.1.2.1 dL_389 (by decide) ?_
    refine lv_goto (tgt := 394) X.1.1 X.1.2.1 dL_390 (by decide) ?_
    refine q_vi X.1 S hl o_0 cf_10 (k_X10_hold e1) vb_X10_hold [.int (xs (i + 1)), .int 1] rfl [] rfl rfl (Nat.le_of_ble_eq_true rfl) ⟨(Nat.le_of_ble_eq_true rfl), (Nat.le_of_ble_eq_true rfl)⟩ ⟨(Nat.le_of_ble_eq_true rfl), (Nat.le_of_ble_eq_true rfl)⟩ dL_394 (fun H locs S => ?_)
    refine lv_aload_n X.1.1 X.1.2.1 dL_397 rfl (lv_at hl 1 rfl) ?_
    refine q_arg X S hl 1 (by omega) (by decide) dL_398 dL_399 dL_400 dL_401 dL_402 ?_
    refine q_arg X S hl 2 (by omega) (by decide) dL_403 dL_404 dL_405 dL_406 dL_407 ?_
    refine lv_if_eq (tgt := 415) X.1.1 X.1.2.1 dL_408 (by decide) (fun z => absurd z hz) (fun _ => ?_)
    refine lv_iconst (v := 1) X.1.1 X.1.2.1 dL_411 (by decide) ?_
    refine lv_goto (tgt := 416) X.1.1 X.1.2.1 dL_412 (by decide) ?_
    refine q_vi X.1 S hl o_76 cf_11 (k_X11_hold e2) vb_X11_hold [.int (xs (i + 1)), .int 1] rfl [.int r] rfl rfl (Nat.le_of_ble_eq_true rfl) ⟨(Nat.le_of_ble_eq_true rfl), (Nat.le_of_ble_eq_true rfl)⟩ ⟨(Nat.le_of_ble_eq_true rfl), (Nat.le_of_ble_eq_true rfl)⟩ dL_416 (fun H locs S => ?_)
    refine lv_icmp_eq (tgt := 1387) X.1.1 X.1.2.1 dL_419 (by decide) (fun _ => kk w2 H locs hI2 S) (fun z => absurd rfl z)
set_option maxHeartbeats 1000000 in
theorem lc_window (X : Lw D ad sx ca p s m c b L xs) (S : St D ad ca s w H locs) (hI : Inv w) {i : Nat} (hl : lv_has ls 4 (lvL ad b i)) (hi6 : i + 6 ≤ L) (kk : ∀ (w2 : Wd) (H1 : Heap) (locs1 : List Loc), Inv w2 → St D ad ca s w2 H1 locs1 → WL p l e s m b below meth c H1 locs1 Q (F0 m 1387 ls [])) : WL p l e s m b below meth c H locs Q (F0 m 424 ls []) := by
  by_cases hz : xs (i + 2) = 0
  · obtain ⟨r, w1, w2, e1, e2, hI2⟩ := op_window hI ((xs (i + 1))) (0) (Or.inl rfl)
    refine lv_aload_n X.1.1 X.1.2.1 dL_424 rfl (lv_at hl 2 rfl) ?_
    refine q_arg X S hl 1 (by omega) (by decide) dL_425 dL_426 dL_427 dL_428 dL_429 ?_
    refine q_arg X S hl 2 (by omega) (by decide) dL_430 dL_431 dL_432 dL_433 dL_434 ?_
    refine lv_if_eq (tgt := 442) X.1.1 X.1.2.1 dL_435 (by decide) (fun _ => ?_) (fun z => absurd hz z)
    refine lv_iconst (v := 0) X.1.1 X.1.2.1 dL_442 (by decide) ?_
    refine q_vi X.1 S hl o_0 cf_10 (k_X10_window e1) vb_X10_window [.int (xs (i + 1)), .int 0] rfl [] rfl rfl (Nat.le_of_ble_eq_true rfl) ⟨(Nat.le_of_ble_eq_true rfl), (Nat.le_of_ble_eq_true rfl)⟩ ⟨(Nat.le_of_ble_eq_true rfl), (Nat.le_of_ble_eq_true rfl)⟩ dL_443 (fun H locs S => ?_)
    refine lv_aload_n X.1.1 X.1.2.1 dL_446 rfl (lv_at hl 1 rfl) ?_
    refine q_arg X S hl 1 (by omega) (by decide) dL_447 dL_448 dL_449 dL_450 dL_451 ?_
    refine q_arg X S hl 2 (by omega) (by decide) dL_452 dL_453 dL_454 dL_455 dL_456 ?_
    refine lv_if_eq (tgt := 464) X.1.1 X.1.2.1 dL_457 (by decide) (fun _ => ?_) (fun z => absurd hz z)
    refine lv_iconst (v := 0) X.1.1 X.1.2.1 dL_464 (by decide) ?_
    refine q_vi X.1 S hl o_76 cf_11 (k_X11_window e2) vb_X11_window [.int (xs (i + 1)), .int 0] rfl [.int r] rfl rfl (Nat.le_of_ble_eq_true rfl) ⟨(Nat.le_of_ble_eq_true rfl), (Nat.le_of_ble_eq_true rfl)⟩ ⟨(Nat.le_of_ble_eq_true rfl), (Nat.le_of_ble_eq_true rfl)⟩ dL_465 (fun H locs S => ?_)
    refine lv_icmp_eq (tgt := 1387) X.1.1 X.1.2.1 dL_468 (by decide) (fun _ => kk w2 H locs hI2 S) (fun z => absurd rfl z)
  · obtain ⟨r, w1, w2, e1, e2, hI2⟩ := op_window hI ((xs (i + 1))) (1) (Or.inr rfl)
    refine lv_aload_n X.1.1 X.1.2.1 dL_424 rfl (lv_at hl 2 rfl) ?_
    refine q_arg X S hl 1 (by omega) (by decide) dL_425 dL_426 dL_427 dL_428 dL_429 ?_
    refine q_arg X S hl 2 (by omega) (by decide) dL_430 dL_431 dL_432 dL_433 dL_434 ?_
    refine lv_if_eq (tgt := 442) X.1.1 X.1.2.1 dL_435 (by decide) (fun z => absurd z hz) (fun _ => ?_)
    refine lv_iconst (v := 1) X.1.1 X.1.2.1 dL_438 (by decide) ?_
    refine lv_goto (tgt := 443) X.1.1 X.1.2.1 dL_439 (by decide) ?_
    refine q_vi X.1 S hl o_0 cf_10 (k_X10_window e1) vb_X10_window [.int (xs (i + 1)), .int 1] rfl [] rfl rfl (Nat.le_of_ble_eq_true rfl) ⟨(Nat.le_of_ble_eq_true rfl), (Nat.le_of_ble_eq_true rfl)⟩ ⟨(Nat.le_of_ble_eq_true rfl), (Nat.le_of_ble_eq_true rfl)⟩ dL_443 (fun H locs S => ?_)
    refine lv_aload_n X.1.1 X.1.2.1 dL_446 rfl (lv_at hl 1 rfl) ?_
    refine q_arg X S hl 1 (by omega) (by decide) dL_447 dL_448 dL_449 dL_450 dL_451 ?_
    refine q_arg X S hl 2 (by omega) (by decide) dL_452 dL_453 dL_454 dL_455 dL_456 ?_
    refine lv_if_eq (tgt := 464) X.1.1 X.1.2.1 dL_457 (by decide) (fun z => absurd z hz) (fun _ => ?_)
    refine lv_iconst (v := 1) X.1.1 X.1.2.1 dL_460 (by decide) ?_
    refine lv_goto (tgt := 465) X.1.1 X.1.2.1 dL_461 (by decide) ?_
    refine q_vi X.1 S hl o_76 cf_11 (k_X11_window e2) vb_X11_window [.int (xs (i + 1)), .int 1] rfl [.int r] rfl rfl (Nat.le_of_ble_eq_true rfl) ⟨(Nat.le_of_ble_eq_true rfl), (Nat.le_of_ble_eq_true rfl)⟩ ⟨(Nat.le_of_ble_eq_true rfl), (Nat.le_of_ble_eq_true rfl)⟩ dL_465 (fun H locs S => ?_)
    refine lv_icmp_eq (tgt := 1387) X.1.1 X.1.2.1 dL_468 (by decide) (fun _ => kk w2 H locs hI2 S) (fun z => absurd rfl z)
set_option maxHeartbeats 1000000 in
theorem lc_drift (X : Lw D ad sx ca p s m c b L xs) (S : St D ad ca s w H locs) (hI : Inv w) {i : Nat} (hl : lv_has ls 4 (lvL ad b i)) (hi6 : i + 6 ≤ L) (kk : ∀ (w2 : Wd) (H1 : Heap) (locs1 : List Loc), Inv w2 → St D ad ca s w2 H1 locs1 → WL p l e s m b below meth c H1 locs1 Q (F0 m 1387 ls [])) : WL p l e s m b below meth c H locs Q (F0 m 473 ls []) := by
  obtain ⟨r, w1, w2, e1, e2, hI2⟩ := op_drift hI ((xs (i + 1))) ((xs (i + 2)))
  refine lv_aload_n X.1.1 X.1.2.1 dL_473 rfl (lv_at hl 2 rfl) ?_
  refine q_arg X S hl 1 (by omega) (by decide) dL_474 dL_475 dL_476 dL_477 dL_478 ?_
  refine q_arg X S hl 2 (by omega) (by decide) dL_479 dL_480 dL_481 dL_482 dL_483 ?_
  refine q_vi X.1 S hl o_0 cf_10 (k_X10_drift e1) vb_X10_drift [.int (xs (i + 1)), .int (xs (i + 2))] rfl [] rfl rfl (Nat.le_of_ble_eq_true rfl) ⟨(Nat.le_of_ble_eq_true rfl), (Nat.le_of_ble_eq_true rfl)⟩ ⟨(Nat.le_of_ble_eq_true rfl), (Nat.le_of_ble_eq_true rfl)⟩ dL_484 (fun H locs S => ?_)
  refine lv_aload_n X.1.1 X.1.2.1 dL_487 rfl (lv_at hl 1 rfl) ?_
  refine q_arg X S hl 1 (by omega) (by decide) dL_488 dL_489 dL_490 dL_491 dL_492 ?_
  refine q_arg X S hl 2 (by omega) (by decide) dL_493 dL_494 dL_495 dL_496 dL_497 ?_
  refine q_vi X.1 S hl o_76 cf_11 (k_X11_drift e2) vb_X11_drift [.int (xs (i + 1)), .int (xs (i + 2))] rfl [.int r] rfl rfl (Nat.le_of_ble_eq_true rfl) ⟨(Nat.le_of_ble_eq_true rfl), (Nat.le_of_ble_eq_true rfl)⟩ ⟨(Nat.le_of_ble_eq_true rfl), (Nat.le_of_ble_eq_true rfl)⟩ dL_498 (fun H locs S => ?_)
  refine lv_icmp_eq (tgt := 1387) X.1.1 X.1.2.1 dL_501 (by decide) (fun _ => kk w2 H locs hI2 S) (fun z => absurd rfl z)
set_option maxHeartbeats 1000000 in
theorem lc_hours (X : Lw D ad sx ca p s m c b L xs) (S : St D ad ca s w H locs) (hI : Inv w) {i : Nat} (hl : lv_has ls 4 (lvL ad b i)) (hi6 : i + 6 ≤ L) (kk : ∀ (w2 : Wd) (H1 : Heap) (locs1 : List Loc), Inv w2 → St D ad ca s w2 H1 locs1 → WL p l e s m b below meth c H1 locs1 Q (F0 m 1387 ls [])) : WL p l e s m b below meth c H locs Q (F0 m 506 ls []) := by
  obtain ⟨r, w1, w2, e1, e2, hI2⟩ := op_hours hI ((xs (i + 1)))
  refine lv_aload_n X.1.1 X.1.2.1 dL_506 rfl (lv_at hl 2 rfl) ?_
  refine q_arg X S hl 1 (by omega) (by decide) dL_507 dL_508 dL_509 dL_510 dL_511 ?_
  refine q_vi X.1 S hl o_0 cf_10 (k_X10_hours e1) vb_X10_hours [.int (xs (i + 1))] rfl [] rfl rfl (Nat.le_of_ble_eq_true rfl) ⟨(Nat.le_of_ble_eq_true rfl), (Nat.le_of_ble_eq_true rfl)⟩ ⟨(Nat.le_of_ble_eq_true rfl), (Nat.le_of_ble_eq_true rfl)⟩ dL_512 (fun H locs S => ?_)
  refine lv_aload_n X.1.1 X.1.2.1 dL_515 rfl (lv_at hl 1 rfl) ?_
  refine q_arg X S hl 1 (by omega) (by decide) dL_516 dL_517 dL_518 dL_519 dL_520 ?_
  refine q_vi X.1 S hl o_76 cf_11 (k_X11_hours e2) vb_X11_hours [.int (xs (i + 1))] rfl [.int r] rfl rfl (Nat.le_of_ble_eq_true rfl) ⟨(Nat.le_of_ble_eq_true rfl), (Nat.le_of_ble_eq_true rfl)⟩ ⟨(Nat.le_of_ble_eq_true rfl), (Nat.le_of_ble_eq_true rfl)⟩ dL_521 (fun H locs S => ?_)
  refine lv_icmp_eq (tgt := 1387) X.1.1 X.1.2.1 dL_524 (by decide) (fun _ => kk w2 H locs hI2 S) (fun z => absurd rfl z)
set_option maxHeartbeats 1000000 in
theorem lc_riser (X : Lw D ad sx ca p s m c b L xs) (S : St D ad ca s w H locs) (hI : Inv w) {i : Nat} (hl : lv_has ls 4 (lvL ad b i)) (hi6 : i + 6 ≤ L) (kk : ∀ (w2 : Wd) (H1 : Heap) (locs1 : List Loc), Inv w2 → St D ad ca s w2 H1 locs1 → WL p l e s m b below meth c H1 locs1 Q (F0 m 1387 ls [])) : WL p l e s m b below meth c H locs Q (F0 m 529 ls []) := by
  obtain ⟨r, w1, w2, e1, e2, hI2⟩ := op_riser hI ((xs (i + 1)))
  refine lv_aload_n X.1.1 X.1.2.1 dL_529 rfl (lv_at hl 2 rfl) ?_
  refine q_arg X S hl 1 (by omega) (by decide) dL_530 dL_531 dL_532 dL_533 dL_534 ?_
  refine q_vi X.1 S hl o_0 cf_10 (k_X10_riser e1) vb_X10_riser [.int (xs (i + 1))] rfl [] rfl rfl (Nat.le_of_ble_eq_true rfl) ⟨(Nat.le_of_ble_eq_true rfl), (Nat.le_of_ble_eq_true rfl)⟩ ⟨(Nat.le_of_ble_eq_true rfl), (Nat.le_of_ble_eq_true rfl)⟩ dL_535 (fun H locs S => ?_)
  refine lv_aload_n X.1.1 X.1.2.1 dL_538 rfl (lv_at hl 1 rfl) ?_
  refine q_arg X S hl 1 (by omega) (by decide) dL_539 dL_540 dL_541 dL_542 dL_543 ?_
  refine q_vi X.1 S hl o_76 cf_11 (k_X11_riser e2) vb_X11_riser [.int (xs (i + 1))] rfl [.int r] rfl rfl (Nat.le_of_ble_eq_true rfl) ⟨(Nat.le_of_ble_eq_true rfl), (Nat.le_of_ble_eq_true rfl)⟩ ⟨(Nat.le_of_ble_eq_true rfl), (Nat.le_of_ble_eq_true rfl)⟩ dL_544 (fun H locs S => ?_)
  refine lv_icmp_eq (tgt := 1387) X.1.1 X.1.2.1 dL_547 (by decide) (fun _ => kk w2 H locs hI2 S) (fun z => absurd rfl z)
set_option maxHeartbeats 1000000 in
theorem lc_feed (X : Lw D ad sx ca p s m c b L xs) (S : St D ad ca s w H locs) (hI : Inv w) {i : Nat} (hl : lv_has ls 4 (lvL ad b i)) (hi6 : i + 6 ≤ L) (kk : ∀ (w2 : Wd) (H1 : Heap) (locs1 : List Loc), Inv w2 → St D ad ca s w2 H1 locs1 → WL p l e s m b below meth c H1 locs1 Q (F0 m 1387 ls [])) : WL p l e s m b below meth c H locs Q (F0 m 552 ls []) := by
  obtain ⟨r, w1, w2, e1, e2, hI2⟩ := op_feed hI ((xs (i + 1))) ((xs (i + 2)))
  refine lv_aload_n X.1.1 X.1.2.1 dL_552 rfl (lv_at hl 2 rfl) ?_
  refine q_arg X S hl 1 (by omega) (by decide) dL_553 dL_554 dL_555 dL_556 dL_557 ?_
  refine q_arg X S hl 2 (by omega) (by decide) dL_558 dL_559 dL_560 dL_561 dL_562 ?_
  refine q_vi X.1 S hl o_0 cf_10 (k_X10_feed e1) vb_X10_feed [.int (xs (i + 1)), .int (xs (i + 2))] rfl [] rfl rfl (Nat.le_of_ble_eq_true rfl) ⟨(Nat.le_of_ble_eq_true rfl), (Nat.le_of_ble_eq_true rfl)⟩ ⟨(Nat.le_of_ble_eq_true rfl), (Nat.le_of_ble_eq_true rfl)⟩ dL_563 (fun H locs S => ?_)
  refine lv_aload_n X.1.1 X.1.2.1 dL_566 rfl (lv_at hl 1 rfl) ?_
  refine q_arg X S hl 1 (by omega) (by decide) dL_567 dL_568 dL_569 dL_570 dL_571 ?_
  refine q_arg X S hl 2 (by omega) (by decide) dL_572 dL_573 dL_574 dL_575 dL_576 ?_
  refine q_vi X.1 S hl o_76 cf_11 (k_X11_feed e2) vb_X11_feed [.int (xs (i + 1)), .int (xs (i + 2))] rfl [.int r] rfl rfl (Nat.le_of_ble_eq_true rfl) ⟨(Nat.le_of_ble_eq_true rfl), (Nat.le_of_ble_eq_true rfl)⟩ ⟨(Nat.le_of_ble_eq_true rfl), (Nat.le_of_ble_eq_true rfl)⟩ dL_577 (fun H locs S => ?_)
  refine lv_icmp_eq (tgt := 1387) X.1.1 X.1.2.1 dL_580 (by decide) (fun _ => kk w2 H locs hI2 S) (fun z => absurd rfl z)
set_option maxHeartbeats 1000000 in
theorem lc_wipe (X : Lw D ad sx ca p s m c b L xs) (S : St D ad ca s w H locs) (hI : Inv w) {i : Nat} (hl : lv_has ls 4 (lvL ad b i)) (hi6 : i + 6 ≤ L) (kk : ∀ (w2 : Wd) (H1 : Heap) (locs1 : List Loc), Inv w2 → St D ad ca s w2 H1 locs1 → WL p l e s m b below meth c H1 locs1 Q (F0 m 1387 ls [])) : WL p l e s m b below meth c H locs Q (F0 m 585 ls []) := by
  obtain ⟨r, w1, w2, e1, e2, hI2⟩ := op_wipe hI 
  refine lv_aload_n X.1.1 X.1.2.1 dL_585 rfl (lv_at hl 2 rfl) ?_
  refine q_vi X.1 S hl o_0 cf_10 (k_X10_wipe e1) vb_X10_wipe [] rfl [] rfl rfl (Nat.le_of_ble_eq_true rfl) ⟨(Nat.le_of_ble_eq_true rfl), (Nat.le_of_ble_eq_true rfl)⟩ ⟨(Nat.le_of_ble_eq_true rfl), (Nat.le_of_ble_eq_true rfl)⟩ dL_586 (fun H locs S => ?_)
  refine lv_aload_n X.1.1 X.1.2.1 dL_589 rfl (lv_at hl 1 rfl) ?_
  refine q_vi X.1 S hl o_76 cf_11 (k_X11_wipe e2) vb_X11_wipe [] rfl [.int r] rfl rfl (Nat.le_of_ble_eq_true rfl) ⟨(Nat.le_of_ble_eq_true rfl), (Nat.le_of_ble_eq_true rfl)⟩ ⟨(Nat.le_of_ble_eq_true rfl), (Nat.le_of_ble_eq_true rfl)⟩ dL_590 (fun H locs S => ?_)
  refine lv_icmp_eq (tgt := 1387) X.1.1 X.1.2.1 dL_593 (by decide) (fun _ => kk w2 H locs hI2 S) (fun z => absurd rfl z)
set_option maxHeartbeats 1000000 in
theorem lc_rule (X : Lw D ad sx ca p s m c b L xs) (S : St D ad ca s w H locs) (hI : Inv w) {i : Nat} (hl : lv_has ls 4 (lvL ad b i)) (hi6 : i + 6 ≤ L) (kk : ∀ (w2 : Wd) (H1 : Heap) (locs1 : List Loc), Inv w2 → St D ad ca s w2 H1 locs1 → WL p l e s m b below meth c H1 locs1 Q (F0 m 1387 ls [])) : WL p l e s m b below meth c H locs Q (F0 m 598 ls []) := by
  obtain ⟨r, w1, w2, e1, e2, hI2⟩ := op_rule hI 
  refine lv_aload_n X.1.1 X.1.2.1 dL_598 rfl (lv_at hl 2 rfl) ?_
  refine q_vi X.1 S hl o_0 cf_10 (k_X10_rule e1) vb_X10_rule [] rfl [] rfl rfl (Nat.le_of_ble_eq_true rfl) ⟨(Nat.le_of_ble_eq_true rfl), (Nat.le_of_ble_eq_true rfl)⟩ ⟨(Nat.le_of_ble_eq_true rfl), (Nat.le_of_ble_eq_true rfl)⟩ dL_599 (fun H locs S => ?_)
  refine lv_aload_n X.1.1 X.1.2.1 dL_602 rfl (lv_at hl 1 rfl) ?_
  refine q_vi X.1 S hl o_76 cf_11 (k_X11_rule e2) vb_X11_rule [] rfl [.int r] rfl rfl (Nat.le_of_ble_eq_true rfl) ⟨(Nat.le_of_ble_eq_true rfl), (Nat.le_of_ble_eq_true rfl)⟩ ⟨(Nat.le_of_ble_eq_true rfl), (Nat.le_of_ble_eq_true rfl)⟩ dL_603 (fun H locs S => ?_)
  refine lv_icmp_eq (tgt := 1387) X.1.1 X.1.2.1 dL_606 (by decide) (fun _ => kk w2 H locs hI2 S) (fun z => absurd rfl z)
set_option maxHeartbeats 1000000 in
theorem lc_plain (X : Lw D ad sx ca p s m c b L xs) (S : St D ad ca s w H locs) (hI : Inv w) {i : Nat} (hl : lv_has ls 4 (lvL ad b i)) (hi6 : i + 6 ≤ L) (kk : ∀ (w2 : Wd) (H1 : Heap) (locs1 : List Loc), Inv w2 → St D ad ca s w2 H1 locs1 → WL p l e s m b below meth c H1 locs1 Q (F0 m 1387 ls [])) : WL p l e s m b below meth c H locs Q (F0 m 611 ls []) := by
  obtain ⟨r, w1, w2, e1, e2, hI2⟩ := op_plain hI 
  refine lv_aload_n X.1.1 X.1.2.1 dL_611 rfl (lv_at hl 2 rfl) ?_
  refine q_vi X.1 S hl o_0 cf_10 (k_X10_plain e1) vb_X10_plain [] rfl [] rfl rfl (Nat.le_of_ble_eq_true rfl) ⟨(Nat.le_of_ble_eq_true rfl), (Nat.le_of_ble_eq_true rfl)⟩ ⟨(Nat.le_of_ble_eq_true rfl), (Nat.le_of_ble_eq_true rfl)⟩ dL_612 (fun H locs S => ?_)
  refine lv_aload_n X.1.1 X.1.2.1 dL_615 rfl (lv_at hl 1 rfl) ?_
  refine q_vi X.1 S hl o_76 cf_11 (k_X11_plain e2) vb_X11_plain [] rfl [.int r] rfl rfl (Nat.le_of_ble_eq_true rfl) ⟨(Nat.le_of_ble_eq_true rfl), (Nat.le_of_ble_eq_true rfl)⟩ ⟨(Nat.le_of_ble_eq_true rfl), (Nat.le_of_ble_eq_true rfl)⟩ dL_616 (fun H locs S => ?_)
  refine lv_icmp_eq (tgt := 1387) X.1.1 X.1.2.1 dL_619 (by decide) (fun _ => kk w2 H locs hI2 S) (fun z => absurd rfl z)
set_option maxHeartbeats 1000000 in
theorem lc_share (X : Lw D ad sx ca p s m c b L xs) (S : St D ad ca s w H locs) (hI : Inv w) {i : Nat} (hl : lv_has ls 4 (lvL ad b i)) (hi6 : i + 6 ≤ L) (kk : ∀ (w2 : Wd) (H1 : Heap) (locs1 : List Loc), Inv w2 → St D ad ca s w2 H1 locs1 → WL p l e s m b below meth c H1 locs1 Q (F0 m 1387 ls [])) : WL p l e s m b below meth c H locs Q (F0 m 624 ls []) := by
  obtain ⟨r, w1, w2, e1, e2, hI2⟩ := op_share hI ((xs (i + 1)))
  refine lv_aload_n X.1.1 X.1.2.1 dL_624 rfl (lv_at hl 2 rfl) ?_
  refine q_arg X S hl 1 (by omega) (by decide) dL_625 dL_626 dL_627 dL_628 dL_629 ?_
  refine q_vi X.1 S hl o_0 cf_10 (k_X10_share e1) vb_X10_share [.int (xs (i + 1))] rfl [] rfl rfl (Nat.le_of_ble_eq_true rfl) ⟨(Nat.le_of_ble_eq_true rfl), (Nat.le_of_ble_eq_true rfl)⟩ ⟨(Nat.le_of_ble_eq_true rfl), (Nat.le_of_ble_eq_true rfl)⟩ dL_630 (fun H locs S => ?_)
  refine lv_aload_n X.1.1 X.1.2.1 dL_633 rfl (lv_at hl 1 rfl) ?_
  refine q_arg X S hl 1 (by omega) (by decide) dL_634 dL_635 dL_636 dL_637 dL_638 ?_
  refine q_vi X.1 S hl o_76 cf_11 (k_X11_share e2) vb_X11_share [.int (xs (i + 1))] rfl [.int r] rfl rfl (Nat.le_of_ble_eq_true rfl) ⟨(Nat.le_of_ble_eq_true rfl), (Nat.le_of_ble_eq_true rfl)⟩ ⟨(Nat.le_of_ble_eq_true rfl), (Nat.le_of_ble_eq_true rfl)⟩ dL_639 (fun H locs S => ?_)
  refine lv_icmp_eq (tgt := 1387) X.1.1 X.1.2.1 dL_642 (by decide) (fun _ => kk w2 H locs hI2 S) (fun z => absurd rfl z)
set_option maxHeartbeats 1000000 in
theorem lc_bill (X : Lw D ad sx ca p s m c b L xs) (S : St D ad ca s w H locs) (hI : Inv w) {i : Nat} (hl : lv_has ls 4 (lvL ad b i)) (hi6 : i + 6 ≤ L) (kk : ∀ (w2 : Wd) (H1 : Heap) (locs1 : List Loc), Inv w2 → St D ad ca s w2 H1 locs1 → WL p l e s m b below meth c H1 locs1 Q (F0 m 1387 ls [])) : WL p l e s m b below meth c H locs Q (F0 m 647 ls []) := by
  obtain ⟨r, w1, w2, e1, e2, hI2⟩ := op_bill hI ((xs (i + 1))) ((xs (i + 2)))
  refine lv_aload_n X.1.1 X.1.2.1 dL_647 rfl (lv_at hl 2 rfl) ?_
  refine q_arg X S hl 1 (by omega) (by decide) dL_648 dL_649 dL_650 dL_651 dL_652 ?_
  refine q_arg X S hl 2 (by omega) (by decide) dL_653 dL_654 dL_655 dL_656 dL_657 ?_
  refine q_vi X.1 S hl o_0 cf_10 (k_X10_bill e1) vb_X10_bill [.int (xs (i + 1)), .int (xs (i + 2))] rfl [] rfl rfl (Nat.le_of_ble_eq_true rfl) ⟨(Nat.le_of_ble_eq_true rfl), (Nat.le_of_ble_eq_true rfl)⟩ ⟨(Nat.le_of_ble_eq_true rfl), (Nat.le_of_ble_eq_true rfl)⟩ dL_658 (fun H locs S => ?_)
  refine lv_aload_n X.1.1 X.1.2.1 dL_661 rfl (lv_at hl 1 rfl) ?_
  refine q_arg X S hl 1 (by omega) (by decide) dL_662 dL_663 dL_664 dL_665 dL_666 ?_
  refine q_arg X S hl 2 (by omega) (by decide) dL_667 dL_668 dL_669 dL_670 dL_671 ?_
  refine q_vi X.1 S hl o_76 cf_11 (k_X11_bill e2) vb_X11_bill [.int (xs (i + 1)), .int (xs (i + 2))] rfl [.int r] rfl rfl (Nat.le_of_ble_eq_true rfl) ⟨(Nat.le_of_ble_eq_true rfl), (Nat.le_of_ble_eq_true rfl)⟩ ⟨(Nat.le_of_ble_eq_true rfl), (Nat.le_of_ble_eq_true rfl)⟩ dL_672 (fun H locs S => ?_)
  refine lv_icmp_eq (tgt := 1387) X.1.1 X.1.2.1 dL_675 (by decide) (fun _ => kk w2 H locs hI2 S) (fun z => absurd rfl z)
set_option maxHeartbeats 1000000 in
theorem lc_other (X : Lw D ad sx ca p s m c b L xs) (S : St D ad ca s w H locs) (hI : Inv w) {i : Nat} (hl : lv_has ls 4 (lvL ad b i)) (hi6 : i + 6 ≤ L) (kk : ∀ (w2 : Wd) (H1 : Heap) (locs1 : List Loc), Inv w2 → St D ad ca s w2 H1 locs1 → WL p l e s m b below meth c H1 locs1 Q (F0 m 1387 ls [])) : WL p l e s m b below meth c H locs Q (F0 m 680 ls []) := by
  obtain ⟨r, w1, w2, e1, e2, hI2⟩ := op_other hI ((xs (i + 1))) ((xs (i + 2)))
  refine lv_aload_n X.1.1 X.1.2.1 dL_680 rfl (lv_at hl 2 rfl) ?_
  refine q_arg X S hl 1 (by omega) (by decide) dL_681 dL_682 dL_683 dL_684 dL_685 ?_
  refine q_arg X S hl 2 (by omega) (by decide) dL_686 dL_687 dL_688 dL_689 dL_690 ?_
  refine q_vi X.1 S hl o_0 cf_10 (k_X10_other e1) vb_X10_other [.int (xs (i + 1)), .int (xs (i + 2))] rfl [] rfl rfl (Nat.le_of_ble_eq_true rfl) ⟨(Nat.le_of_ble_eq_true rfl), (Nat.le_of_ble_eq_true rfl)⟩ ⟨(Nat.le_of_ble_eq_true rfl), (Nat.le_of_ble_eq_true rfl)⟩ dL_691 (fun H locs S => ?_)
  refine lv_aload_n X.1.1 X.1.2.1 dL_694 rfl (lv_at hl 1 rfl) ?_
  refine q_arg X S hl 1 (by omega) (by decide) dL_695 dL_696 dL_697 dL_698 dL_699 ?_
  refine q_arg X S hl 2 (by omega) (by decide) dL_700 dL_701 dL_702 dL_703 dL_704 ?_
  refine q_vi X.1 S hl o_76 cf_11 (k_X11_other e2) vb_X11_other [.int (xs (i + 1)), .int (xs (i + 2))] rfl [.int r] rfl rfl (Nat.le_of_ble_eq_true rfl) ⟨(Nat.le_of_ble_eq_true rfl), (Nat.le_of_ble_eq_true rfl)⟩ ⟨(Nat.le_of_ble_eq_true rfl), (Nat.le_of_ble_eq_true rfl)⟩ dL_705 (fun H locs S => ?_)
  refine lv_icmp_eq (tgt := 1387) X.1.1 X.1.2.1 dL_708 (by decide) (fun _ => kk w2 H locs hI2 S) (fun z => absurd rfl z)
set_option maxHeartbeats 1000000 in
theorem lc_meters (X : Lw D ad sx ca p s m c b L xs) (S : St D ad ca s w H locs) (hI : Inv w) {i : Nat} (hl : lv_has ls 4 (lvL ad b i)) (hi6 : i + 6 ≤ L) (kk : ∀ (w2 : Wd) (H1 : Heap) (locs1 : List Loc), Inv w2 → St D ad ca s w2 H1 locs1 → WL p l e s m b below meth c H1 locs1 Q (F0 m 1387 ls [])) : WL p l e s m b below meth c H locs Q (F0 m 713 ls []) := by
  obtain ⟨r, w1, w2, e1, e2, hI2⟩ := op_meters hI ((xs (i + 1)))
  refine lv_aload_n X.1.1 X.1.2.1 dL_713 rfl (lv_at hl 2 rfl) ?_
  refine q_arg X S hl 1 (by omega) (by decide) dL_714 dL_715 dL_716 dL_717 dL_718 ?_
  refine q_vi X.1 S hl o_0 cf_10 (k_X10_meters e1) vb_X10_meters [.int (xs (i + 1))] rfl [] rfl rfl (Nat.le_of_ble_eq_true rfl) ⟨(Nat.le_of_ble_eq_true rfl), (Nat.le_of_ble_eq_true rfl)⟩ ⟨(Nat.le_of_ble_eq_true rfl), (Nat.le_of_ble_eq_true rfl)⟩ dL_719 (fun H locs S => ?_)
  refine lv_aload_n X.1.1 X.1.2.1 dL_722 rfl (lv_at hl 1 rfl) ?_
  refine q_arg X S hl 1 (by omega) (by decide) dL_723 dL_724 dL_725 dL_726 dL_727 ?_
  refine q_vi X.1 S hl o_76 cf_11 (k_X11_meters e2) vb_X11_meters [.int (xs (i + 1))] rfl [.int r] rfl rfl (Nat.le_of_ble_eq_true rfl) ⟨(Nat.le_of_ble_eq_true rfl), (Nat.le_of_ble_eq_true rfl)⟩ ⟨(Nat.le_of_ble_eq_true rfl), (Nat.le_of_ble_eq_true rfl)⟩ dL_728 (fun H locs S => ?_)
  refine lv_icmp_eq (tgt := 1387) X.1.1 X.1.2.1 dL_731 (by decide) (fun _ => kk w2 H locs hI2 S) (fun z => absurd rfl z)
set_option maxHeartbeats 1000000 in
theorem lc_felt (X : Lw D ad sx ca p s m c b L xs) (S : St D ad ca s w H locs) (hI : Inv w) {i : Nat} (hl : lv_has ls 4 (lvL ad b i)) (hi6 : i + 6 ≤ L) (kk : ∀ (w2 : Wd) (H1 : Heap) (locs1 : List Loc), Inv w2 → St D ad ca s w2 H1 locs1 → WL p l e s m b below meth c H1 locs1 Q (F0 m 1387 ls [])) : WL p l e s m b below meth c H locs Q (F0 m 736 ls []) := by
  obtain ⟨r, w1, w2, e1, e2, hI2⟩ := op_felt hI ((xs (i + 1))) ((xs (i + 2)))
  refine lv_aload_n X.1.1 X.1.2.1 dL_736 rfl (lv_at hl 2 rfl) ?_
  refine q_arg X S hl 1 (by omega) (by decide) dL_737 dL_738 dL_739 dL_740 dL_741 ?_
  refine q_arg X S hl 2 (by omega) (by decide) dL_742 dL_743 dL_744 dL_745 dL_746 ?_
  refine q_vi X.1 S hl o_0 cf_10 (k_X10_felt e1) vb_X10_felt [.int (xs (i + 1)), .int (xs (i + 2))] rfl [] rfl rfl (Nat.le_of_ble_eq_true rfl) ⟨(Nat.le_of_ble_eq_true rfl), (Nat.le_of_ble_eq_true rfl)⟩ ⟨(Nat.le_of_ble_eq_true rfl), (Nat.le_of_ble_eq_true rfl)⟩ dL_747 (fun H locs S => ?_)
  refine lv_aload_n X.1.1 X.1.2.1 dL_750 rfl (lv_at hl 1 rfl) ?_
  refine q_arg X S hl 1 (by omega) (by decide) dL_751 dL_752 dL_753 dL_754 dL_755 ?_
  refine q_arg X S hl 2 (by omega) (by decide) dL_756 dL_757 dL_758 dL_759 dL_760 ?_
  refine q_vi X.1 S hl o_76 cf_11 (k_X11_felt e2) vb_X11_felt [.int (xs (i + 1)), .int (xs (i + 2))] rfl [.int r] rfl rfl (Nat.le_of_ble_eq_true rfl) ⟨(Nat.le_of_ble_eq_true rfl), (Nat.le_of_ble_eq_true rfl)⟩ ⟨(Nat.le_of_ble_eq_true rfl), (Nat.le_of_ble_eq_true rfl)⟩ dL_761 (fun H locs S => ?_)
  refine lv_icmp_eq (tgt := 1387) X.1.1 X.1.2.1 dL_764 (by decide) (fun _ => kk w2 H locs hI2 S) (fun z => absurd rfl z)
end LAWC1
