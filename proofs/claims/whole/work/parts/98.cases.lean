section CASES
variable {p : Program} {l : Launch} {e : Env} {s : State} {m : MethodId} {args : Array Value} {below : List Frame} {meth : Method} {c : Code} {Qw : State → Prop} {G : Gh} {h : Hp} {H : Heap} {locs : List Loc} {ls : Array Slot} {cells slots i x y b0 s0 np na nm nr ne : Nat} {g : Nat → Nat → Nat} {mm : Nat → Nat}
theorem case_place (C : LX G p s m args meth c) (hJ : JA x y b0 s0 np na nm nr ne g mm h) (hm0 : 24 ≤ mm 0) (hR : Rel G h H) (hS : va_S (gFree G) s.heap H locs) (hl : lv_has ls 4 (LV G x y i)) (hk : i + 6 ≤ gL G) (hc : hn h = cells + gB G) (hms : hm h = slots) (hB : ∀ h2, JJ x y b0 s0 mm h2 → hn h2 ≤ gB G + 600000 ∧ hm h2 ≤ 7302250) (k : ∀ (h2 : Hp) (H2 : Heap) (locs2 : List Loc) (cells2 slots2 : Nat), JJ x y b0 s0 mm h2 → Rel G h2 H2 → va_S (gFree G) s.heap H2 locs2 → hn h2 = cells2 + gB G → hm h2 = slots2 → W p l e room_1 s m args below meth c H2 locs2 cells2 slots2 Qw (F0 m 1876 ls [])) : W p l e room_1 s m args below meth c H locs cells slots Qw (F0 m 236 ls []) := by
  have hx := C.1.1
  have hb := C.1.2.1
  have kx : kd h x = 11 := by
    have q := hJ.2.1
    unfold JS at q
    exact q.1
  have ky : kd h y = 12 := by
    have q := hJ.1
    unfold JM at q
    exact q.1
  have hr := RunQ.mono (Q' := qI fun r h1 => RunQ l G 2 yX11_place cX11_place 3 (some .int) (va_rf (some y) :: [.int (gXs G (i + 1)), .int (gXs G (i + 2))]) h1 (qI fun r2 h2 => r = r2 ∧ JJ x y b0 s0 mm h2)) (r_X10_place (l := l) (G := G) (some x) (gXs G (i + 1)) (gXs G (i + 2)) (K_place hJ (gXs G (i + 1)) (gXs G (i + 2)) (JJ x y b0 s0 mm) (fun _ q => q))) (fun r h1 ⟨v, e, w⟩ => ⟨v, e, r_X11_place (some y) _ _ w⟩)
  refine lv_aload_n hx hb dL_law_236 rfl (lv_at hl 1 rfl) ?_
  refine L_rd C hS hl 1 (by decide) hk dL_law_237 dL_law_238 dL_law_239 dL_law_240 dL_law_241 ?_
  refine L_rd C hS hl 2 (by decide) hk dL_law_242 dL_law_243 dL_law_244 dL_law_245 dL_law_246 ?_
  refine L_two (As := [.int (gXs G (i + 1)), .int (gXs G (i + 2))]) C hR hS hl.1 kx ky hc hms ma_L_13 rfl ma_L_17 rfl (by decide) (by decide) (by decide) (by decide) rfl hr hB ?_ dL_law_247 dL_law_261 dL_law_264 (by decide) k
  intro H1 locs1 cells1 slots1 v hS1 kk
  refine lv_aload_n hx hb dL_law_250 rfl (lv_at hl 2 rfl) ?_
  refine L_rd C hS1 hl 1 (by decide) hk dL_law_251 dL_law_252 dL_law_253 dL_law_254 dL_law_255 ?_
  refine L_rd C hS1 hl 2 (by decide) hk dL_law_256 dL_law_257 dL_law_258 dL_law_259 dL_law_260 ?_
  exact kk
theorem case_parish (C : LX G p s m args meth c) (hJ : JA x y b0 s0 np na nm nr ne g mm h) (hm0 : 24 ≤ mm 0) (hR : Rel G h H) (hS : va_S (gFree G) s.heap H locs) (hl : lv_has ls 4 (LV G x y i)) (hk : i + 6 ≤ gL G) (hc : hn h = cells + gB G) (hms : hm h = slots) (hB : ∀ h2, JJ x y b0 s0 mm h2 → hn h2 ≤ gB G + 600000 ∧ hm h2 ≤ 7302250) (k : ∀ (h2 : Hp) (H2 : Heap) (locs2 : List Loc) (cells2 slots2 : Nat), JJ x y b0 s0 mm h2 → Rel G h2 H2 → va_S (gFree G) s.heap H2 locs2 → hn h2 = cells2 + gB G → hm h2 = slots2 → W p l e room_1 s m args below meth c H2 locs2 cells2 slots2 Qw (F0 m 1876 ls [])) : W p l e room_1 s m args below meth c H locs cells slots Qw (F0 m 269 ls []) := by
  have hx := C.1.1
  have hb := C.1.2.1
  have kx : kd h x = 11 := by
    have q := hJ.2.1
    unfold JS at q
    exact q.1
  have ky : kd h y = 12 := by
    have q := hJ.1
    unfold JM at q
    exact q.1
  have hr := RunQ.mono (Q' := qI fun r h1 => RunQ l G 2 yX11_parish cX11_parish 5 (some .int) (va_rf (some y) :: [.int (gXs G (i + 1)), .int (gXs G (i + 2)), .int (gXs G (i + 3)), .int (gXs G (i + 4))]) h1 (qI fun r2 h2 => r = r2 ∧ JJ x y b0 s0 mm h2)) (r_X10_parish (l := l) (G := G) (some x) (gXs G (i + 1)) (gXs G (i + 2)) (gXs G (i + 3)) (gXs G (i + 4)) (K_parish hJ (gXs G (i + 1)) (gXs G (i + 2)) (gXs G (i + 3)) (gXs G (i + 4)) (JJ x y b0 s0 mm) (fun _ q => q))) (fun r h1 ⟨v, e, w⟩ => ⟨v, e, r_X11_parish (some y) _ _ _ _ w⟩)
  refine lv_aload_n hx hb dL_law_269 rfl (lv_at hl 1 rfl) ?_
  refine L_rd C hS hl 1 (by decide) hk dL_law_270 dL_law_271 dL_law_272 dL_law_273 dL_law_274 ?_
  refine L_rd C hS hl 2 (by decide) hk dL_law_275 dL_law_276 dL_law_277 dL_law_278 dL_law_279 ?_
  refine L_rd C hS hl 3 (by decide) hk dL_law_280 dL_law_281 dL_law_282 dL_law_283 dL_law_284 ?_
  refine L_rd C hS hl 4 (by decide) hk dL_law_285 dL_law_286 dL_law_287 dL_law_288 dL_law_289 ?_
  refine L_two (As := [.int (gXs G (i + 1)), .int (gXs G (i + 2)), .int (gXs G (i + 3)), .int (gXs G (i + 4))]) C hR hS hl.1 kx ky hc hms ma_L_18 rfl ma_L_22 rfl (by decide) (by decide) (by decide) (by decide) rfl hr hB ?_ dL_law_290 dL_law_314 dL_law_317 (by decide) k
  intro H1 locs1 cells1 slots1 v hS1 kk
  refine lv_aload_n hx hb dL_law_293 rfl (lv_at hl 2 rfl) ?_
  refine L_rd C hS1 hl 1 (by decide) hk dL_law_294 dL_law_295 dL_law_296 dL_law_297 dL_law_298 ?_
  refine L_rd C hS1 hl 2 (by decide) hk dL_law_299 dL_law_300 dL_law_301 dL_law_302 dL_law_303 ?_
  refine L_rd C hS1 hl 3 (by decide) hk dL_law_304 dL_law_305 dL_law_306 dL_law_307 dL_law_308 ?_
  refine L_rd C hS1 hl 4 (by decide) hk dL_law_309 dL_law_310 dL_law_311 dL_law_312 dL_law_313 ?_
  exact kk
theorem case_path (C : LX G p s m args meth c) (hJ : JA x y b0 s0 np na nm nr ne g mm h) (hm0 : 24 ≤ mm 0) (hR : Rel G h H) (hS : va_S (gFree G) s.heap H locs) (hl : lv_has ls 4 (LV G x y i)) (hk : i + 6 ≤ gL G) (hc : hn h = cells + gB G) (hms : hm h = slots) (hB : ∀ h2, JJ x y b0 s0 mm h2 → hn h2 ≤ gB G + 600000 ∧ hm h2 ≤ 7302250) (k : ∀ (h2 : Hp) (H2 : Heap) (locs2 : List Loc) (cells2 slots2 : Nat), JJ x y b0 s0 mm h2 → Rel G h2 H2 → va_S (gFree G) s.heap H2 locs2 → hn h2 = cells2 + gB G → hm h2 = slots2 → W p l e room_1 s m args below meth c H2 locs2 cells2 slots2 Qw (F0 m 1876 ls [])) : W p l e room_1 s m args below meth c H locs cells slots Qw (F0 m 322 ls []) := by
  have hx := C.1.1
  have hb := C.1.2.1
  have kx : kd h x = 11 := by
    have q := hJ.2.1
    unfold JS at q
    exact q.1
  have ky : kd h y = 12 := by
    have q := hJ.1
    unfold JM at q
    exact q.1
  have hr := RunQ.mono (Q' := qI fun r h1 => RunQ l G 2 yX11_path cX11_path 3 (some .int) (va_rf (some y) :: [.int (gXs G (i + 1)), .int (gXs G (i + 2))]) h1 (qI fun r2 h2 => r = r2 ∧ JJ x y b0 s0 mm h2)) (r_X10_path (l := l) (G := G) (some x) (gXs G (i + 1)) (gXs G (i + 2)) (K_path hJ (gXs G (i + 1)) (gXs G (i + 2)) (JJ x y b0 s0 mm) (fun _ q => q))) (fun r h1 ⟨v, e, w⟩ => ⟨v, e, r_X11_path (some y) _ _ w⟩)
  refine lv_aload_n hx hb dL_law_322 rfl (lv_at hl 1 rfl) ?_
  refine L_rd C hS hl 1 (by decide) hk dL_law_323 dL_law_324 dL_law_325 dL_law_326 dL_law_327 ?_
  refine L_rd C hS hl 2 (by decide) hk dL_law_328 dL_law_329 dL_law_330 dL_law_331 dL_law_332 ?_
  refine L_two (As := [.int (gXs G (i + 1)), .int (gXs G (i + 2))]) C hR hS hl.1 kx ky hc hms ma_L_23 rfl ma_L_26 rfl (by decide) (by decide) (by decide) (by decide) rfl hr hB ?_ dL_law_333 dL_law_347 dL_law_350 (by decide) k
  intro H1 locs1 cells1 slots1 v hS1 kk
  refine lv_aload_n hx hb dL_law_336 rfl (lv_at hl 2 rfl) ?_
  refine L_rd C hS1 hl 1 (by decide) hk dL_law_337 dL_law_338 dL_law_339 dL_law_340 dL_law_341 ?_
  refine L_rd C hS1 hl 2 (by decide) hk dL_law_342 dL_law_343 dL_law_344 dL_law_345 dL_law_346 ?_
  exact kk
theorem case_days (C : LX G p s m args meth c) (hJ : JA x y b0 s0 np na nm nr ne g mm h) (hm0 : 24 ≤ mm 0) (hR : Rel G h H) (hS : va_S (gFree G) s.heap H locs) (hl : lv_has ls 4 (LV G x y i)) (hk : i + 6 ≤ gL G) (hc : hn h = cells + gB G) (hms : hm h = slots) (hB : ∀ h2, JJ x y b0 s0 mm h2 → hn h2 ≤ gB G + 600000 ∧ hm h2 ≤ 7302250) (k : ∀ (h2 : Hp) (H2 : Heap) (locs2 : List Loc) (cells2 slots2 : Nat), JJ x y b0 s0 mm h2 → Rel G h2 H2 → va_S (gFree G) s.heap H2 locs2 → hn h2 = cells2 + gB G → hm h2 = slots2 → W p l e room_1 s m args below meth c H2 locs2 cells2 slots2 Qw (F0 m 1876 ls [])) : W p l e room_1 s m args below meth c H locs cells slots Qw (F0 m 355 ls []) := by
  have hx := C.1.1
  have hb := C.1.2.1
  have kx : kd h x = 11 := by
    have q := hJ.2.1
    unfold JS at q
    exact q.1
  have ky : kd h y = 12 := by
    have q := hJ.1
    unfold JM at q
    exact q.1
  have hr := RunQ.mono (Q' := qI fun r h1 => RunQ l G 2 yX11_days cX11_days 2 (some .int) (va_rf (some y) :: [.int (gXs G (i + 1))]) h1 (qI fun r2 h2 => r = r2 ∧ JJ x y b0 s0 mm h2)) (r_X10_days (l := l) (G := G) (some x) (gXs G (i + 1)) (K_days hJ (gXs G (i + 1)) (JJ x y b0 s0 mm) (fun _ q => q))) (fun r h1 ⟨v, e, w⟩ => ⟨v, e, r_X11_days (some y) _ w⟩)
  refine lv_aload_n hx hb dL_law_355 rfl (lv_at hl 1 rfl) ?_
  refine L_rd C hS hl 1 (by decide) hk dL_law_356 dL_law_357 dL_law_358 dL_law_359 dL_law_360 ?_
  refine L_two (As := [.int (gXs G (i + 1))]) C hR hS hl.1 kx ky hc hms ma_L_27 rfl ma_L_31 rfl (by decide) (by decide) (by decide) (by decide) rfl hr hB ?_ dL_law_361 dL_law_370 dL_law_373 (by decide) k
  intro H1 locs1 cells1 slots1 v hS1 kk
  refine lv_aload_n hx hb dL_law_364 rfl (lv_at hl 2 rfl) ?_
  refine L_rd C hS1 hl 1 (by decide) hk dL_law_365 dL_law_366 dL_law_367 dL_law_368 dL_law_369 ?_
  exact kk
theorem case_about (C : LX G p s m args meth c) (hJ : JA x y b0 s0 np na nm nr ne g mm h) (hm0 : 24 ≤ mm 0) (hR : Rel G h H) (hS : va_S (gFree G) s.heap H locs) (hl : lv_has ls 4 (LV G x y i)) (hk : i + 6 ≤ gL G) (hc : hn h = cells + gB G) (hms : hm h = slots) (hB : ∀ h2, JJ x y b0 s0 mm h2 → hn h2 ≤ gB G + 600000 ∧ hm h2 ≤ 7302250) (k : ∀ (h2 : Hp) (H2 : Heap) (locs2 : List Loc) (cells2 slots2 : Nat), JJ x y b0 s0 mm h2 → Rel G h2 H2 → va_S (gFree G) s.heap H2 locs2 → hn h2 = cells2 + gB G → hm h2 = slots2 → W p l e room_1 s m args below meth c H2 locs2 cells2 slots2 Qw (F0 m 1876 ls [])) : W p l e room_1 s m args below meth c H locs cells slots Qw (F0 m 378 ls []) := by
  have hx := C.1.1
  have hb := C.1.2.1
  have kx : kd h x = 11 := by
    have q := hJ.2.1
    unfold JS at q
    exact q.1
  have ky : kd h y = 12 := by
    have q := hJ.1
    unfold JM at q
    exact q.1
  have hr := RunQ.mono (Q' := qI fun r h1 => RunQ l G 3 yX11_about cX11_about 3 (some .int) (va_rf (some y) :: [.int (gXs G (i + 1)), .int (gXs G (i + 2))]) h1 (qI fun r2 h2 => r = r2 ∧ JJ x y b0 s0 mm h2)) (r_X10_about (l := l) (G := G) (some x) (gXs G (i + 1)) (gXs G (i + 2)) (K_about hJ (gXs G (i + 1)) (gXs G (i + 2)) (JJ x y b0 s0 mm) (fun _ q => q))) (fun r h1 ⟨v, e, w⟩ => ⟨v, e, r_X11_about (some y) _ _ w⟩)
  refine lv_aload_n hx hb dL_law_378 rfl (lv_at hl 1 rfl) ?_
  refine L_rd C hS hl 1 (by decide) hk dL_law_379 dL_law_380 dL_law_381 dL_law_382 dL_law_383 ?_
  refine L_rd C hS hl 2 (by decide) hk dL_law_384 dL_law_385 dL_law_386 dL_law_387 dL_law_388 ?_
  refine L_two (As := [.int (gXs G (i + 1)), .int (gXs G (i + 2))]) C hR hS hl.1 kx ky hc hms ma_L_32 rfl ma_L_35 rfl (by decide) (by decide) (by decide) (by decide) rfl hr hB ?_ dL_law_389 dL_law_403 dL_law_406 (by decide) k
  intro H1 locs1 cells1 slots1 v hS1 kk
  refine lv_aload_n hx hb dL_law_392 rfl (lv_at hl 2 rfl) ?_
  refine L_rd C hS1 hl 1 (by decide) hk dL_law_393 dL_law_394 dL_law_395 dL_law_396 dL_law_397 ?_
  refine L_rd C hS1 hl 2 (by decide) hk dL_law_398 dL_law_399 dL_law_400 dL_law_401 dL_law_402 ?_
  exact kk
theorem case_row (C : LX G p s m args meth c) (hJ : JA x y b0 s0 np na nm nr ne g mm h) (hm0 : 24 ≤ mm 0) (hR : Rel G h H) (hS : va_S (gFree G) s.heap H locs) (hl : lv_has ls 4 (LV G x y i)) (hk : i + 6 ≤ gL G) (hc : hn h = cells + gB G) (hms : hm h = slots) (hB : ∀ h2, JJ x y b0 s0 mm h2 → hn h2 ≤ gB G + 600000 ∧ hm h2 ≤ 7302250) (k : ∀ (h2 : Hp) (H2 : Heap) (locs2 : List Loc) (cells2 slots2 : Nat), JJ x y b0 s0 mm h2 → Rel G h2 H2 → va_S (gFree G) s.heap H2 locs2 → hn h2 = cells2 + gB G → hm h2 = slots2 → W p l e room_1 s m args below meth c H2 locs2 cells2 slots2 Qw (F0 m 1876 ls [])) : W p l e room_1 s m args below meth c H locs cells slots Qw (F0 m 411 ls []) := by
  have hx := C.1.1
  have hb := C.1.2.1
  have kx : kd h x = 11 := by
    have q := hJ.2.1
    unfold JS at q
    exact q.1
  have ky : kd h y = 12 := by
    have q := hJ.1
    unfold JM at q
    exact q.1
  have hr := RunQ.mono (Q' := qI fun r h1 => RunQ l G 2 yX11_row cX11_row 5 (some .int) (va_rf (some y) :: [.int (gXs G (i + 1)), .int (gXs G (i + 2)), .int (gXs G (i + 3))]) h1 (qI fun r2 h2 => r = r2 ∧ JJ x y b0 s0 mm h2)) (r_X10_row (l := l) (G := G) (some x) (gXs G (i + 1)) (gXs G (i + 2)) (gXs G (i + 3)) (K_row hJ (gXs G (i + 1)) (gXs G (i + 2)) (gXs G (i + 3)) (JJ x y b0 s0 mm) (fun _ q => q))) (fun r h1 ⟨v, e, w⟩ => ⟨v, e, r_X11_row (some y) _ _ _ w⟩)
  refine lv_aload_n hx hb dL_law_411 rfl (lv_at hl 1 rfl) ?_
  refine L_rd C hS hl 1 (by decide) hk dL_law_412 dL_law_413 dL_law_414 dL_law_415 dL_law_416 ?_
  refine L_rd C hS hl 2 (by decide) hk dL_law_417 dL_law_418 dL_law_419 dL_law_420 dL_law_421 ?_
  refine L_rd C hS hl 3 (by decide) hk dL_law_422 dL_law_423 dL_law_424 dL_law_425 dL_law_426 ?_
  refine L_two (As := [.int (gXs G (i + 1)), .int (gXs G (i + 2)), .int (gXs G (i + 3))]) C hR hS hl.1 kx ky hc hms ma_L_36 rfl ma_L_40 rfl (by decide) (by decide) (by decide) (by decide) rfl hr hB ?_ dL_law_427 dL_law_446 dL_law_449 (by decide) k
  intro H1 locs1 cells1 slots1 v hS1 kk
  refine lv_aload_n hx hb dL_law_430 rfl (lv_at hl 2 rfl) ?_
  refine L_rd C hS1 hl 1 (by decide) hk dL_law_431 dL_law_432 dL_law_433 dL_law_434 dL_law_435 ?_
  refine L_rd C hS1 hl 2 (by decide) hk dL_law_436 dL_law_437 dL_law_438 dL_law_439 dL_law_440 ?_
  refine L_rd C hS1 hl 3 (by decide) hk dL_law_441 dL_law_442 dL_law_443 dL_law_444 dL_law_445 ?_
  exact kk
theorem case_set (C : LX G p s m args meth c) (hJ : JA x y b0 s0 np na nm nr ne g mm h) (hm0 : 24 ≤ mm 0) (hR : Rel G h H) (hS : va_S (gFree G) s.heap H locs) (hl : lv_has ls 4 (LV G x y i)) (hk : i + 6 ≤ gL G) (hc : hn h = cells + gB G) (hms : hm h = slots) (hB : ∀ h2, JJ x y b0 s0 mm h2 → hn h2 ≤ gB G + 600000 ∧ hm h2 ≤ 7302250) (k : ∀ (h2 : Hp) (H2 : Heap) (locs2 : List Loc) (cells2 slots2 : Nat), JJ x y b0 s0 mm h2 → Rel G h2 H2 → va_S (gFree G) s.heap H2 locs2 → hn h2 = cells2 + gB G → hm h2 = slots2 → W p l e room_1 s m args below meth c H2 locs2 cells2 slots2 Qw (F0 m 1876 ls [])) : W p l e room_1 s m args below meth c H locs cells slots Qw (F0 m 454 ls []) := by
  have hx := C.1.1
  have hb := C.1.2.1
  have kx : kd h x = 11 := by
    have q := hJ.2.1
    unfold JS at q
    exact q.1
  have ky : kd h y = 12 := by
    have q := hJ.1
    unfold JM at q
    exact q.1
  have hr := RunQ.mono (Q' := qI fun r h1 => RunQ l G 2 yX11_set cX11_set 5 (some .int) (va_rf (some y) :: [.int (gXs G (i + 1)), .int (gXs G (i + 2)), .long (lgW (gXs G (i + 3)) (gXs G (i + 4)))]) h1 (qI fun r2 h2 => r = r2 ∧ JJ x y b0 s0 mm h2)) (r_X10_set (l := l) (G := G) (some x) (gXs G (i + 1)) (gXs G (i + 2)) (lgW (gXs G (i + 3)) (gXs G (i + 4))) (K_set hJ (gXs G (i + 1)) (gXs G (i + 2)) (lgW (gXs G (i + 3)) (gXs G (i + 4))) (JJ x y b0 s0 mm) (fun _ q => q))) (fun r h1 ⟨v, e, w⟩ => ⟨v, e, r_X11_set (some y) _ _ _ w⟩)
  refine lv_aload_n hx hb dL_law_454 rfl (lv_at hl 1 rfl) ?_
  refine L_rd C hS hl 1 (by decide) hk dL_law_455 dL_law_456 dL_law_457 dL_law_458 dL_law_459 ?_
  refine L_rd C hS hl 2 (by decide) hk dL_law_460 dL_law_461 dL_law_462 dL_law_463 dL_law_464 ?_
  refine L_rdl C hS hl hk dL_law_465 dL_law_466 dL_law_467 dL_law_468 dL_law_469 dL_law_470 dL_law_471 dL_law_473 dL_law_474 dL_law_475 dL_law_476 dL_law_477 dL_law_478 dL_law_479 dL_law_480 dL_law_483 dL_law_484 ?_
  refine L_two (As := [.int (gXs G (i + 1)), .int (gXs G (i + 2)), .long (lgW (gXs G (i + 3)) (gXs G (i + 4)))]) C hR hS hl.1 kx ky hc hms ma_L_43 rfl ma_L_47 rfl (by decide) (by decide) (by decide) (by decide) rfl hr hB ?_ dL_law_485 dL_law_519 dL_law_522 (by decide) k
  intro H1 locs1 cells1 slots1 v hS1 kk
  refine lv_aload_n hx hb dL_law_488 rfl (lv_at hl 2 rfl) ?_
  refine L_rd C hS1 hl 1 (by decide) hk dL_law_489 dL_law_490 dL_law_491 dL_law_492 dL_law_493 ?_
  refine L_rd C hS1 hl 2 (by decide) hk dL_law_494 dL_law_495 dL_law_496 dL_law_497 dL_law_498 ?_
  refine L_rdl C hS1 hl hk dL_law_499 dL_law_500 dL_law_501 dL_law_502 dL_law_503 dL_law_504 dL_law_505 dL_law_507 dL_law_508 dL_law_509 dL_law_510 dL_law_511 dL_law_512 dL_law_513 dL_law_514 dL_law_517 dL_law_518 ?_
  exact kk
theorem case_copy (C : LX G p s m args meth c) (hJ : JA x y b0 s0 np na nm nr ne g mm h) (hm0 : 24 ≤ mm 0) (hR : Rel G h H) (hS : va_S (gFree G) s.heap H locs) (hl : lv_has ls 4 (LV G x y i)) (hk : i + 6 ≤ gL G) (hc : hn h = cells + gB G) (hms : hm h = slots) (hB : ∀ h2, JJ x y b0 s0 mm h2 → hn h2 ≤ gB G + 600000 ∧ hm h2 ≤ 7302250) (k : ∀ (h2 : Hp) (H2 : Heap) (locs2 : List Loc) (cells2 slots2 : Nat), JJ x y b0 s0 mm h2 → Rel G h2 H2 → va_S (gFree G) s.heap H2 locs2 → hn h2 = cells2 + gB G → hm h2 = slots2 → W p l e room_1 s m args below meth c H2 locs2 cells2 slots2 Qw (F0 m 1876 ls [])) : W p l e room_1 s m args below meth c H locs cells slots Qw (F0 m 527 ls []) := by
  have hx := C.1.1
  have hb := C.1.2.1
  have kx : kd h x = 11 := by
    have q := hJ.2.1
    unfold JS at q
    exact q.1
  have ky : kd h y = 12 := by
    have q := hJ.1
    unfold JM at q
    exact q.1
  have hr := RunQ.mono (Q' := qI fun r h1 => RunQ l G 2 yX11_copy cX11_copy 7 (some .int) (va_rf (some y) :: [.int (gXs G (i + 1)), .int (gXs G (i + 2)), .int (gXs G (i + 3)), .int (gXs G (i + 4)), .int (gXs G (i + 5))]) h1 (qI fun r2 h2 => r = r2 ∧ JJ x y b0 s0 mm h2)) (r_X10_copy (l := l) (G := G) (some x) (gXs G (i + 1)) (gXs G (i + 2)) (gXs G (i + 3)) (gXs G (i + 4)) (gXs G (i + 5)) (K_copy hJ (gXs G (i + 1)) (gXs G (i + 2)) (gXs G (i + 3)) (gXs G (i + 4)) (gXs G (i + 5)) (JJ x y b0 s0 mm) (fun _ q => q))) (fun r h1 ⟨v, e, w⟩ => ⟨v, e, r_X11_copy (some y) _ _ _ _ _ w⟩)
  refine lv_aload_n hx hb dL_law_527 rfl (lv_at hl 1 rfl) ?_
  refine L_rd C hS hl 1 (by decide) hk dL_law_528 dL_law_529 dL_law_530 dL_law_531 dL_law_532 ?_
  refine L_rd C hS hl 2 (by decide) hk dL_law_533 dL_law_534 dL_law_535 dL_law_536 dL_law_537 ?_
  refine L_rd C hS hl 3 (by decide) hk dL_law_538 dL_law_539 dL_law_540 dL_law_541 dL_law_542 ?_
  refine L_rd C hS hl 4 (by decide) hk dL_law_543 dL_law_544 dL_law_545 dL_law_546 dL_law_547 ?_
  refine L_rd C hS hl 5 (by decide) hk dL_law_548 dL_law_549 dL_law_550 dL_law_551 dL_law_552 ?_
  refine L_two (As := [.int (gXs G (i + 1)), .int (gXs G (i + 2)), .int (gXs G (i + 3)), .int (gXs G (i + 4)), .int (gXs G (i + 5))]) C hR hS hl.1 kx ky hc hms ma_L_48 rfl ma_L_52 rfl (by decide) (by decide) (by decide) (by decide) rfl hr hB ?_ dL_law_553 dL_law_582 dL_law_585 (by decide) k
  intro H1 locs1 cells1 slots1 v hS1 kk
  refine lv_aload_n hx hb dL_law_556 rfl (lv_at hl 2 rfl) ?_
  refine L_rd C hS1 hl 1 (by decide) hk dL_law_557 dL_law_558 dL_law_559 dL_law_560 dL_law_561 ?_
  refine L_rd C hS1 hl 2 (by decide) hk dL_law_562 dL_law_563 dL_law_564 dL_law_565 dL_law_566 ?_
  refine L_rd C hS1 hl 3 (by decide) hk dL_law_567 dL_law_568 dL_law_569 dL_law_570 dL_law_571 ?_
  refine L_rd C hS1 hl 4 (by decide) hk dL_law_572 dL_law_573 dL_law_574 dL_law_575 dL_law_576 ?_
  refine L_rd C hS1 hl 5 (by decide) hk dL_law_577 dL_law_578 dL_law_579 dL_law_580 dL_law_581 ?_
  exact kk
theorem case_element (C : LX G p s m args meth c) (hJ : JA x y b0 s0 np na nm nr ne g mm h) (hm0 : 24 ≤ mm 0) (hR : Rel G h H) (hS : va_S (gFree G) s.heap H locs) (hl : lv_has ls 4 (LV G x y i)) (hk : i + 6 ≤ gL G) (hc : hn h = cells + gB G) (hms : hm h = slots) (hB : ∀ h2, JJ x y b0 s0 mm h2 → hn h2 ≤ gB G + 600000 ∧ hm h2 ≤ 7302250) (k : ∀ (h2 : Hp) (H2 : Heap) (locs2 : List Loc) (cells2 slots2 : Nat), JJ x y b0 s0 mm h2 → Rel G h2 H2 → va_S (gFree G) s.heap H2 locs2 → hn h2 = cells2 + gB G → hm h2 = slots2 → W p l e room_1 s m args below meth c H2 locs2 cells2 slots2 Qw (F0 m 1876 ls [])) : W p l e room_1 s m args below meth c H locs cells slots Qw (F0 m 590 ls []) := by
  have hx := C.1.1
  have hb := C.1.2.1
  have kx : kd h x = 11 := by
    have q := hJ.2.1
    unfold JS at q
    exact q.1
  have ky : kd h y = 12 := by
    have q := hJ.1
    unfold JM at q
    exact q.1
  have hr := RunQ.mono (Q' := qL fun r h1 => RunQ l G 2 yX11_element cX11_element 3 (some .long) (va_rf (some y) :: [.int (gXs G (i + 1)), .int (gXs G (i + 2))]) h1 (qL fun r2 h2 => r = r2 ∧ JJ x y b0 s0 mm h2)) (r_X10_element (l := l) (G := G) (some x) (gXs G (i + 1)) (gXs G (i + 2)) (K_element hJ (gXs G (i + 1)) (gXs G (i + 2)) (JJ x y b0 s0 mm) (fun _ q => q))) (fun r h1 ⟨v, e, w⟩ => ⟨v, e, r_X11_element (some y) _ _ w⟩)
  refine lv_aload_n hx hb dL_law_590 rfl (lv_at hl 1 rfl) ?_
  refine L_rd C hS hl 1 (by decide) hk dL_law_591 dL_law_592 dL_law_593 dL_law_594 dL_law_595 ?_
  refine L_rd C hS hl 2 (by decide) hk dL_law_596 dL_law_597 dL_law_598 dL_law_599 dL_law_600 ?_
  refine L_twoL (As := [.int (gXs G (i + 1)), .int (gXs G (i + 2))]) C hR hS hl.1 kx ky hc hms ma_L_53 rfl ma_L_57 rfl (by decide) (by decide) (by decide) (by decide) rfl hr hB ?_ dL_law_601 dL_law_615 dL_law_618 dL_law_619 (by decide) k
  intro H1 locs1 cells1 slots1 v hS1 kk
  refine lv_aload_n hx hb dL_law_604 rfl (lv_at hl 2 rfl) ?_
  refine L_rd C hS1 hl 1 (by decide) hk dL_law_605 dL_law_606 dL_law_607 dL_law_608 dL_law_609 ?_
  refine L_rd C hS1 hl 2 (by decide) hk dL_law_610 dL_law_611 dL_law_612 dL_law_613 dL_law_614 ?_
  exact kk
theorem case_show (C : LX G p s m args meth c) (hJ : JA x y b0 s0 np na nm nr ne g mm h) (hm0 : 24 ≤ mm 0) (hR : Rel G h H) (hS : va_S (gFree G) s.heap H locs) (hl : lv_has ls 4 (LV G x y i)) (hk : i + 6 ≤ gL G) (hc : hn h = cells + gB G) (hms : hm h = slots) (hB : ∀ h2, JJ x y b0 s0 mm h2 → hn h2 ≤ gB G + 600000 ∧ hm h2 ≤ 7302250) (k : ∀ (h2 : Hp) (H2 : Heap) (locs2 : List Loc) (cells2 slots2 : Nat), JJ x y b0 s0 mm h2 → Rel G h2 H2 → va_S (gFree G) s.heap H2 locs2 → hn h2 = cells2 + gB G → hm h2 = slots2 → W p l e room_1 s m args below meth c H2 locs2 cells2 slots2 Qw (F0 m 1876 ls [])) : W p l e room_1 s m args below meth c H locs cells slots Qw (F0 m 624 ls []) := by
  have hx := C.1.1
  have hb := C.1.2.1
  have kx : kd h x = 11 := by
    have q := hJ.2.1
    unfold JS at q
    exact q.1
  have ky : kd h y = 12 := by
    have q := hJ.1
    unfold JM at q
    exact q.1
  have hr := RunQ.mono (Q' := qI fun r h1 => RunQ l G 2 yX11_show cX11_show 3 (some .int) (va_rf (some y) :: [.int (gXs G (i + 1)), .int (gXs G (i + 2))]) h1 (qI fun r2 h2 => r = r2 ∧ JJ x y b0 s0 mm h2)) (r_X10_show (l := l) (G := G) (some x) (gXs G (i + 1)) (gXs G (i + 2)) (K_show hJ (gXs G (i + 1)) (gXs G (i + 2)) (JJ x y b0 s0 mm) (fun _ q => q))) (fun r h1 ⟨v, e, w⟩ => ⟨v, e, r_X11_show (some y) _ _ w⟩)
  refine lv_aload_n hx hb dL_law_624 rfl (lv_at hl 1 rfl) ?_
  refine L_rd C hS hl 1 (by decide) hk dL_law_625 dL_law_626 dL_law_627 dL_law_628 dL_law_629 ?_
  refine L_rd C hS hl 2 (by decide) hk dL_law_630 dL_law_631 dL_law_632 dL_law_633 dL_law_634 ?_
  refine L_two (As := [.int (gXs G (i + 1)), .int (gXs G (i + 2))]) C hR hS hl.1 kx ky hc hms ma_L_58 rfl ma_L_61 rfl (by decide) (by decide) (by decide) (by decide) rfl hr hB ?_ dL_law_635 dL_law_649 dL_law_652 (by decide) k
  intro H1 locs1 cells1 slots1 v hS1 kk
  refine lv_aload_n hx hb dL_law_638 rfl (lv_at hl 2 rfl) ?_
  refine L_rd C hS1 hl 1 (by decide) hk dL_law_639 dL_law_640 dL_law_641 dL_law_642 dL_law_643 ?_
  refine L_rd C hS1 hl 2 (by decide) hk dL_law_644 dL_law_645 dL_law_646 dL_law_647 dL_law_648 ?_
  exact kk
theorem case_holds (C : LX G p s m args meth c) (hJ : JA x y b0 s0 np na nm nr ne g mm h) (hm0 : 24 ≤ mm 0) (hR : Rel G h H) (hS : va_S (gFree G) s.heap H locs) (hl : lv_has ls 4 (LV G x y i)) (hk : i + 6 ≤ gL G) (hc : hn h = cells + gB G) (hms : hm h = slots) (hB : ∀ h2, JJ x y b0 s0 mm h2 → hn h2 ≤ gB G + 600000 ∧ hm h2 ≤ 7302250) (k : ∀ (h2 : Hp) (H2 : Heap) (locs2 : List Loc) (cells2 slots2 : Nat), JJ x y b0 s0 mm h2 → Rel G h2 H2 → va_S (gFree G) s.heap H2 locs2 → hn h2 = cells2 + gB G → hm h2 = slots2 → W p l e room_1 s m args below meth c H2 locs2 cells2 slots2 Qw (F0 m 1876 ls [])) : W p l e room_1 s m args below meth c H locs cells slots Qw (F0 m 657 ls []) := by
  have hx := C.1.1
  have hb := C.1.2.1
  have kx : kd h x = 11 := by
    have q := hJ.2.1
    unfold JS at q
    exact q.1
  have ky : kd h y = 12 := by
    have q := hJ.1
    unfold JM at q
    exact q.1
  have hr := RunQ.mono (Q' := qI fun r h1 => RunQ l G 2 yX11_holds cX11_holds 2 (some .int) (va_rf (some y) :: [.int (gXs G (i + 1))]) h1 (qI fun r2 h2 => r = r2 ∧ JJ x y b0 s0 mm h2)) (r_X10_holds (l := l) (G := G) (some x) (gXs G (i + 1)) (K_holds hJ (gXs G (i + 1)) (JJ x y b0 s0 mm) (fun _ q => q))) (fun r h1 ⟨v, e, w⟩ => ⟨v, e, r_X11_holds (some y) _ w⟩)
  refine lv_aload_n hx hb dL_law_657 rfl (lv_at hl 1 rfl) ?_
  refine L_rd C hS hl 1 (by decide) hk dL_law_658 dL_law_659 dL_law_660 dL_law_661 dL_law_662 ?_
  refine L_two (As := [.int (gXs G (i + 1))]) C hR hS hl.1 kx ky hc hms ma_L_62 rfl ma_L_65 rfl (by decide) (by decide) (by decide) (by decide) rfl hr hB ?_ dL_law_663 dL_law_672 dL_law_675 (by decide) k
  intro H1 locs1 cells1 slots1 v hS1 kk
  refine lv_aload_n hx hb dL_law_666 rfl (lv_at hl 2 rfl) ?_
  refine L_rd C hS1 hl 1 (by decide) hk dL_law_667 dL_law_668 dL_law_669 dL_law_670 dL_law_671 ?_
  exact kk
theorem case_says (C : LX G p s m args meth c) (hJ : JA x y b0 s0 np na nm nr ne g mm h) (hm0 : 24 ≤ mm 0) (hR : Rel G h H) (hS : va_S (gFree G) s.heap H locs) (hl : lv_has ls 4 (LV G x y i)) (hk : i + 6 ≤ gL G) (hc : hn h = cells + gB G) (hms : hm h = slots) (hB : ∀ h2, JJ x y b0 s0 mm h2 → hn h2 ≤ gB G + 600000 ∧ hm h2 ≤ 7302250) (k : ∀ (h2 : Hp) (H2 : Heap) (locs2 : List Loc) (cells2 slots2 : Nat), JJ x y b0 s0 mm h2 → Rel G h2 H2 → va_S (gFree G) s.heap H2 locs2 → hn h2 = cells2 + gB G → hm h2 = slots2 → W p l e room_1 s m args below meth c H2 locs2 cells2 slots2 Qw (F0 m 1876 ls [])) : W p l e room_1 s m args below meth c H locs cells slots Qw (F0 m 680 ls []) := by
  have hx := C.1.1
  have hb := C.1.2.1
  have kx : kd h x = 11 := by
    have q := hJ.2.1
    unfold JS at q
    exact q.1
  have ky : kd h y = 12 := by
    have q := hJ.1
    unfold JM at q
    exact q.1
  have hr := RunQ.mono (Q' := qI fun r h1 => RunQ l G 2 yX11_says cX11_says 4 (some .int) (va_rf (some y) :: [.int (gXs G (i + 1)), .int (gXs G (i + 2))]) h1 (qI fun r2 h2 => r = r2 ∧ JJ x y b0 s0 mm h2)) (r_X10_says (l := l) (G := G) (some x) (gXs G (i + 1)) (gXs G (i + 2)) (K_says hJ (gXs G (i + 1)) (gXs G (i + 2)) (JJ x y b0 s0 mm) (fun _ q => q))) (fun r h1 ⟨v, e, w⟩ => ⟨v, e, r_X11_says (some y) _ _ w⟩)
  refine lv_aload_n hx hb dL_law_680 rfl (lv_at hl 1 rfl) ?_
  refine L_rd C hS hl 1 (by decide) hk dL_law_681 dL_law_682 dL_law_683 dL_law_684 dL_law_685 ?_
  refine L_rd C hS hl 2 (by decide) hk dL_law_686 dL_law_687 dL_law_688 dL_law_689 dL_law_690 ?_
  refine L_two (As := [.int (gXs G (i + 1)), .int (gXs G (i + 2))]) C hR hS hl.1 kx ky hc hms ma_L_66 rfl ma_L_69 rfl (by decide) (by decide) (by decide) (by decide) rfl hr hB ?_ dL_law_691 dL_law_705 dL_law_708 (by decide) k
  intro H1 locs1 cells1 slots1 v hS1 kk
  refine lv_aload_n hx hb dL_law_694 rfl (lv_at hl 2 rfl) ?_
  refine L_rd C hS1 hl 1 (by decide) hk dL_law_695 dL_law_696 dL_law_697 dL_law_698 dL_law_699 ?_
  refine L_rd C hS1 hl 2 (by decide) hk dL_law_700 dL_law_701 dL_law_702 dL_law_703 dL_law_704 ?_
  exact kk
theorem case_model (C : LX G p s m args meth c) (hJ : JA x y b0 s0 np na nm nr ne g mm h) (hm0 : 24 ≤ mm 0) (hR : Rel G h H) (hS : va_S (gFree G) s.heap H locs) (hl : lv_has ls 4 (LV G x y i)) (hk : i + 6 ≤ gL G) (hc : hn h = cells + gB G) (hms : hm h = slots) (hB : ∀ h2, JJ x y b0 s0 mm h2 → hn h2 ≤ gB G + 600000 ∧ hm h2 ≤ 7302250) (k : ∀ (h2 : Hp) (H2 : Heap) (locs2 : List Loc) (cells2 slots2 : Nat), JJ x y b0 s0 mm h2 → Rel G h2 H2 → va_S (gFree G) s.heap H2 locs2 → hn h2 = cells2 + gB G → hm h2 = slots2 → W p l e room_1 s m args below meth c H2 locs2 cells2 slots2 Qw (F0 m 1876 ls [])) : W p l e room_1 s m args below meth c H locs cells slots Qw (F0 m 713 ls []) := by
  have hx := C.1.1
  have hb := C.1.2.1
  have kx : kd h x = 11 := by
    have q := hJ.2.1
    unfold JS at q
    exact q.1
  have ky : kd h y = 12 := by
    have q := hJ.1
    unfold JM at q
    exact q.1
  have hr := RunQ.mono (Q' := qI fun r h1 => RunQ l G 3 yX11_model cX11_model 6 (some .int) (va_rf (some y) :: [.int (gXs G (i + 1)), .int (gXs G (i + 2)), .int (gXs G (i + 3))]) h1 (qI fun r2 h2 => r = r2 ∧ JJ x y b0 s0 mm h2)) (r_X10_model (l := l) (G := G) (some x) (gXs G (i + 1)) (gXs G (i + 2)) (gXs G (i + 3)) (K_model hJ (gXs G (i + 1)) (gXs G (i + 2)) (gXs G (i + 3)) (JJ x y b0 s0 mm) (fun _ q => q))) (fun r h1 ⟨v, e, w⟩ => ⟨v, e, r_X11_model (some y) _ _ _ w⟩)
  refine lv_aload_n hx hb dL_law_713 rfl (lv_at hl 1 rfl) ?_
  refine L_rd C hS hl 1 (by decide) hk dL_law_714 dL_law_715 dL_law_716 dL_law_717 dL_law_718 ?_
  refine L_rd C hS hl 2 (by decide) hk dL_law_719 dL_law_720 dL_law_721 dL_law_722 dL_law_723 ?_
  refine L_rd C hS hl 3 (by decide) hk dL_law_724 dL_law_725 dL_law_726 dL_law_727 dL_law_728 ?_
  refine L_two (As := [.int (gXs G (i + 1)), .int (gXs G (i + 2)), .int (gXs G (i + 3))]) C hR hS hl.1 kx ky hc hms ma_L_70 rfl ma_L_73 rfl (by decide) (by decide) (by decide) (by decide) rfl hr hB ?_ dL_law_729 dL_law_748 dL_law_751 (by decide) k
  intro H1 locs1 cells1 slots1 v hS1 kk
  refine lv_aload_n hx hb dL_law_732 rfl (lv_at hl 2 rfl) ?_
  refine L_rd C hS1 hl 1 (by decide) hk dL_law_733 dL_law_734 dL_law_735 dL_law_736 dL_law_737 ?_
  refine L_rd C hS1 hl 2 (by decide) hk dL_law_738 dL_law_739 dL_law_740 dL_law_741 dL_law_742 ?_
  refine L_rd C hS1 hl 3 (by decide) hk dL_law_743 dL_law_744 dL_law_745 dL_law_746 dL_law_747 ?_
  exact kk
theorem case_reaches (C : LX G p s m args meth c) (hJ : JA x y b0 s0 np na nm nr ne g mm h) (hm0 : 24 ≤ mm 0) (hR : Rel G h H) (hS : va_S (gFree G) s.heap H locs) (hl : lv_has ls 4 (LV G x y i)) (hk : i + 6 ≤ gL G) (hc : hn h = cells + gB G) (hms : hm h = slots) (hB : ∀ h2, JJ x y b0 s0 mm h2 → hn h2 ≤ gB G + 600000 ∧ hm h2 ≤ 7302250) (k : ∀ (h2 : Hp) (H2 : Heap) (locs2 : List Loc) (cells2 slots2 : Nat), JJ x y b0 s0 mm h2 → Rel G h2 H2 → va_S (gFree G) s.heap H2 locs2 → hn h2 = cells2 + gB G → hm h2 = slots2 → W p l e room_1 s m args below meth c H2 locs2 cells2 slots2 Qw (F0 m 1876 ls [])) : W p l e room_1 s m args below meth c H locs cells slots Qw (F0 m 756 ls []) := by
  have hx := C.1.1
  have hb := C.1.2.1
  have kx : kd h x = 11 := by
    have q := hJ.2.1
    unfold JS at q
    exact q.1
  have ky : kd h y = 12 := by
    have q := hJ.1
    unfold JM at q
    exact q.1
  have hr := RunQ.mono (Q' := qI fun r h1 => RunQ l G 3 yX11_reaches cX11_reaches 3 (some .int) (va_rf (some y) :: [.int (gXs G (i + 1)), .int (gXs G (i + 2))]) h1 (qI fun r2 h2 => r = r2 ∧ JJ x y b0 s0 mm h2)) (r_X10_reaches (l := l) (G := G) (some x) (gXs G (i + 1)) (gXs G (i + 2)) (K_reaches hJ (gXs G (i + 1)) (gXs G (i + 2)) (JJ x y b0 s0 mm) (fun _ q => q))) (fun r h1 ⟨v, e, w⟩ => ⟨v, e, r_X11_reaches (some y) _ _ w⟩)
  refine lv_aload_n hx hb dL_law_756 rfl (lv_at hl 1 rfl) ?_
  refine L_rd C hS hl 1 (by decide) hk dL_law_757 dL_law_758 dL_law_759 dL_law_760 dL_law_761 ?_
  refine L_rd C hS hl 2 (by decide) hk dL_law_762 dL_law_763 dL_law_764 dL_law_765 dL_law_766 ?_
  refine L_two (As := [.int (gXs G (i + 1)), .int (gXs G (i + 2))]) C hR hS hl.1 kx ky hc hms ma_L_74 rfl ma_L_77 rfl (by decide) (by decide) (by decide) (by decide) rfl hr hB ?_ dL_law_767 dL_law_781 dL_law_784 (by decide) k
  intro H1 locs1 cells1 slots1 v hS1 kk
  refine lv_aload_n hx hb dL_law_770 rfl (lv_at hl 2 rfl) ?_
  refine L_rd C hS1 hl 1 (by decide) hk dL_law_771 dL_law_772 dL_law_773 dL_law_774 dL_law_775 ?_
  refine L_rd C hS1 hl 2 (by decide) hk dL_law_776 dL_law_777 dL_law_778 dL_law_779 dL_law_780 ?_
  exact kk
theorem case_write (C : LX G p s m args meth c) (hJ : JA x y b0 s0 np na nm nr ne g mm h) (hm0 : 24 ≤ mm 0) (hR : Rel G h H) (hS : va_S (gFree G) s.heap H locs) (hl : lv_has ls 4 (LV G x y i)) (hk : i + 6 ≤ gL G) (hc : hn h = cells + gB G) (hms : hm h = slots) (hB : ∀ h2, JJ x y b0 s0 mm h2 → hn h2 ≤ gB G + 600000 ∧ hm h2 ≤ 7302250) (k : ∀ (h2 : Hp) (H2 : Heap) (locs2 : List Loc) (cells2 slots2 : Nat), JJ x y b0 s0 mm h2 → Rel G h2 H2 → va_S (gFree G) s.heap H2 locs2 → hn h2 = cells2 + gB G → hm h2 = slots2 → W p l e room_1 s m args below meth c H2 locs2 cells2 slots2 Qw (F0 m 1876 ls [])) : W p l e room_1 s m args below meth c H locs cells slots Qw (F0 m 789 ls []) := by
  have hx := C.1.1
  have hb := C.1.2.1
  have kx : kd h x = 11 := by
    have q := hJ.2.1
    unfold JS at q
    exact q.1
  have ky : kd h y = 12 := by
    have q := hJ.1
    unfold JM at q
    exact q.1
  have hr := RunQ.mono (Q' := qI fun r h1 => RunQ l G 3 yX11_write cX11_write 11 (some .int) (va_rf (some y) :: [.int (gXs G (i + 1)), .int (gXs G (i + 2)), .int (gXs G (i + 3)), .int (gXs G (i + 4)), .int (gXs G (i + 5))]) h1 (qI fun r2 h2 => r = r2 ∧ JJ x y b0 s0 mm h2)) (r_X10_write (l := l) (G := G) (some x) (gXs G (i + 1)) (gXs G (i + 2)) (gXs G (i + 3)) (gXs G (i + 4)) (gXs G (i + 5)) (K_write hJ (gXs G (i + 1)) (gXs G (i + 2)) (gXs G (i + 3)) (gXs G (i + 4)) (gXs G (i + 5)) (JJ x y b0 s0 mm) (fun _ q => q))) (fun r h1 ⟨v, e, w⟩ => ⟨v, e, r_X11_write (some y) _ _ _ _ _ w⟩)
  refine lv_aload_n hx hb dL_law_789 rfl (lv_at hl 1 rfl) ?_
  refine L_rd C hS hl 1 (by decide) hk dL_law_790 dL_law_791 dL_law_792 dL_law_793 dL_law_794 ?_
  refine L_rd C hS hl 2 (by decide) hk dL_law_795 dL_law_796 dL_law_797 dL_law_798 dL_law_799 ?_
  refine L_rd C hS hl 3 (by decide) hk dL_law_800 dL_law_801 dL_law_802 dL_law_803 dL_law_804 ?_
  refine L_rd C hS hl 4 (by decide) hk dL_law_805 dL_law_806 dL_law_807 dL_law_808 dL_law_809 ?_
  refine L_rd C hS hl 5 (by decide) hk dL_law_810 dL_law_811 dL_law_812 dL_law_813 dL_law_814 ?_
  refine L_two (As := [.int (gXs G (i + 1)), .int (gXs G (i + 2)), .int (gXs G (i + 3)), .int (gXs G (i + 4)), .int (gXs G (i + 5))]) C hR hS hl.1 kx ky hc hms ma_L_78 rfl ma_L_81 rfl (by decide) (by decide) (by decide) (by decide) rfl hr hB ?_ dL_law_815 dL_law_844 dL_law_847 (by decide) k
  intro H1 locs1 cells1 slots1 v hS1 kk
  refine lv_aload_n hx hb dL_law_818 rfl (lv_at hl 2 rfl) ?_
  refine L_rd C hS1 hl 1 (by decide) hk dL_law_819 dL_law_820 dL_law_821 dL_law_822 dL_law_823 ?_
  refine L_rd C hS1 hl 2 (by decide) hk dL_law_824 dL_law_825 dL_law_826 dL_law_827 dL_law_828 ?_
  refine L_rd C hS1 hl 3 (by decide) hk dL_law_829 dL_law_830 dL_law_831 dL_law_832 dL_law_833 ?_
  refine L_rd C hS1 hl 4 (by decide) hk dL_law_834 dL_law_835 dL_law_836 dL_law_837 dL_law_838 ?_
  refine L_rd C hS1 hl 5 (by decide) hk dL_law_839 dL_law_840 dL_law_841 dL_law_842 dL_law_843 ?_
  exact kk
theorem case_withdraw (C : LX G p s m args meth c) (hJ : JA x y b0 s0 np na nm nr ne g mm h) (hm0 : 24 ≤ mm 0) (hR : Rel G h H) (hS : va_S (gFree G) s.heap H locs) (hl : lv_has ls 4 (LV G x y i)) (hk : i + 6 ≤ gL G) (hc : hn h = cells + gB G) (hms : hm h = slots) (hB : ∀ h2, JJ x y b0 s0 mm h2 → hn h2 ≤ gB G + 600000 ∧ hm h2 ≤ 7302250) (k : ∀ (h2 : Hp) (H2 : Heap) (locs2 : List Loc) (cells2 slots2 : Nat), JJ x y b0 s0 mm h2 → Rel G h2 H2 → va_S (gFree G) s.heap H2 locs2 → hn h2 = cells2 + gB G → hm h2 = slots2 → W p l e room_1 s m args below meth c H2 locs2 cells2 slots2 Qw (F0 m 1876 ls [])) : W p l e room_1 s m args below meth c H locs cells slots Qw (F0 m 852 ls []) := by
  have hx := C.1.1
  have hb := C.1.2.1
  have kx : kd h x = 11 := by
    have q := hJ.2.1
    unfold JS at q
    exact q.1
  have ky : kd h y = 12 := by
    have q := hJ.1
    unfold JM at q
    exact q.1
  have hr := RunQ.mono (Q' := qI fun r h1 => RunQ l G 2 yX11_withdraw cX11_withdraw 2 (some .int) (va_rf (some y) :: [.int (gXs G (i + 1))]) h1 (qI fun r2 h2 => r = r2 ∧ JJ x y b0 s0 mm h2)) (r_X10_withdraw (l := l) (G := G) (some x) (gXs G (i + 1)) (K_withdraw hJ (gXs G (i + 1)) (JJ x y b0 s0 mm) (fun _ q => q))) (fun r h1 ⟨v, e, w⟩ => ⟨v, e, r_X11_withdraw (some y) _ w⟩)
  refine lv_aload_n hx hb dL_law_852 rfl (lv_at hl 1 rfl) ?_
  refine L_rd C hS hl 1 (by decide) hk dL_law_853 dL_law_854 dL_law_855 dL_law_856 dL_law_857 ?_
  refine L_two (As := [.int (gXs G (i + 1))]) C hR hS hl.1 kx ky hc hms ma_L_82 rfl ma_L_85 rfl (by decide) (by decide) (by decide) (by decide) rfl hr hB ?_ dL_law_858 dL_law_867 dL_law_870 (by decide) k
  intro H1 locs1 cells1 slots1 v hS1 kk
  refine lv_aload_n hx hb dL_law_861 rfl (lv_at hl 2 rfl) ?_
  refine L_rd C hS1 hl 1 (by decide) hk dL_law_862 dL_law_863 dL_law_864 dL_law_865 dL_law_866 ?_
  exact kk
theorem case_tear (C : LX G p s m args meth c) (hJ : JA x y b0 s0 np na nm nr ne g mm h) (hm0 : 24 ≤ mm 0) (hR : Rel G h H) (hS : va_S (gFree G) s.heap H locs) (hl : lv_has ls 4 (LV G x y i)) (hk : i + 6 ≤ gL G) (hc : hn h = cells + gB G) (hms : hm h = slots) (hB : ∀ h2, JJ x y b0 s0 mm h2 → hn h2 ≤ gB G + 600000 ∧ hm h2 ≤ 7302250) (k : ∀ (h2 : Hp) (H2 : Heap) (locs2 : List Loc) (cells2 slots2 : Nat), JJ x y b0 s0 mm h2 → Rel G h2 H2 → va_S (gFree G) s.heap H2 locs2 → hn h2 = cells2 + gB G → hm h2 = slots2 → W p l e room_1 s m args below meth c H2 locs2 cells2 slots2 Qw (F0 m 1876 ls [])) : W p l e room_1 s m args below meth c H locs cells slots Qw (F0 m 875 ls []) := by
  have hx := C.1.1
  have hb := C.1.2.1
  have kx : kd h x = 11 := by
    have q := hJ.2.1
    unfold JS at q
    exact q.1
  have ky : kd h y = 12 := by
    have q := hJ.1
    unfold JM at q
    exact q.1
  have hr := RunQ.mono (Q' := qI fun r h1 => RunQ l G 2 yX11_tear cX11_tear 6 (some .int) (va_rf (some y) :: [.int (gXs G (i + 1)), .int (gXs G (i + 2))]) h1 (qI fun r2 h2 => r = r2 ∧ JJ x y b0 s0 mm h2)) (r_X10_tear (l := l) (G := G) (some x) (gXs G (i + 1)) (gXs G (i + 2)) (K_tear hJ (gXs G (i + 1)) (gXs G (i + 2)) (JJ x y b0 s0 mm) (fun _ q => q))) (fun r h1 ⟨v, e, w⟩ => ⟨v, e, r_X11_tear (some y) _ _ w⟩)
  refine lv_aload_n hx hb dL_law_875 rfl (lv_at hl 1 rfl) ?_
  refine L_rd C hS hl 1 (by decide) hk dL_law_876 dL_law_877 dL_law_878 dL_law_879 dL_law_880 ?_
  refine L_rd C hS hl 2 (by decide) hk dL_law_881 dL_law_882 dL_law_883 dL_law_884 dL_law_885 ?_
  refine L_two (As := [.int (gXs G (i + 1)), .int (gXs G (i + 2))]) C hR hS hl.1 kx ky hc hms ma_L_86 rfl ma_L_89 rfl (by decide) (by decide) (by decide) (by decide) rfl hr hB ?_ dL_law_886 dL_law_900 dL_law_903 (by decide) k
  intro H1 locs1 cells1 slots1 v hS1 kk
  refine lv_aload_n hx hb dL_law_889 rfl (lv_at hl 2 rfl) ?_
  refine L_rd C hS1 hl 1 (by decide) hk dL_law_890 dL_law_891 dL_law_892 dL_law_893 dL_law_894 ?_
  refine L_rd C hS1 hl 2 (by decide) hk dL_law_895 dL_law_896 dL_law_897 dL_law_898 dL_law_899 ?_
  exact kk
theorem case_ask (C : LX G p s m args meth c) (hJ : JA x y b0 s0 np na nm nr ne g mm h) (hm0 : 24 ≤ mm 0) (hR : Rel G h H) (hS : va_S (gFree G) s.heap H locs) (hl : lv_has ls 4 (LV G x y i)) (hk : i + 6 ≤ gL G) (hc : hn h = cells + gB G) (hms : hm h = slots) (hB : ∀ h2, JJ x y b0 s0 mm h2 → hn h2 ≤ gB G + 600000 ∧ hm h2 ≤ 7302250) (k : ∀ (h2 : Hp) (H2 : Heap) (locs2 : List Loc) (cells2 slots2 : Nat), JJ x y b0 s0 mm h2 → Rel G h2 H2 → va_S (gFree G) s.heap H2 locs2 → hn h2 = cells2 + gB G → hm h2 = slots2 → W p l e room_1 s m args below meth c H2 locs2 cells2 slots2 Qw (F0 m 1876 ls [])) : W p l e room_1 s m args below meth c H locs cells slots Qw (F0 m 908 ls []) := by
  have hx := C.1.1
  have hb := C.1.2.1
  have kx : kd h x = 11 := by
    have q := hJ.2.1
    unfold JS at q
    exact q.1
  have ky : kd h y = 12 := by
    have q := hJ.1
    unfold JM at q
    exact q.1
  have hr := RunQ.mono (Q' := qI fun r h1 => RunQ l G 2 yX11_ask cX11_ask 3 (some .int) (va_rf (some y) :: [.int (gXs G (i + 1)), .int (gXs G (i + 2))]) h1 (qI fun r2 h2 => r = r2 ∧ JJ x y b0 s0 mm h2)) (r_X10_ask (l := l) (G := G) (some x) (gXs G (i + 1)) (gXs G (i + 2)) (K_ask hJ (gXs G (i + 1)) (gXs G (i + 2)) (JJ x y b0 s0 mm) (fun _ q => q))) (fun r h1 ⟨v, e, w⟩ => ⟨v, e, r_X11_ask (some y) _ _ w⟩)
  refine lv_aload_n hx hb dL_law_908 rfl (lv_at hl 1 rfl) ?_
  refine L_rd C hS hl 1 (by decide) hk dL_law_909 dL_law_910 dL_law_911 dL_law_912 dL_law_913 ?_
  refine L_rd C hS hl 2 (by decide) hk dL_law_914 dL_law_915 dL_law_916 dL_law_917 dL_law_918 ?_
  refine L_two (As := [.int (gXs G (i + 1)), .int (gXs G (i + 2))]) C hR hS hl.1 kx ky hc hms ma_L_90 rfl ma_L_93 rfl (by decide) (by decide) (by decide) (by decide) rfl hr hB ?_ dL_law_919 dL_law_933 dL_law_936 (by decide) k
  intro H1 locs1 cells1 slots1 v hS1 kk
  refine lv_aload_n hx hb dL_law_922 rfl (lv_at hl 2 rfl) ?_
  refine L_rd C hS1 hl 1 (by decide) hk dL_law_923 dL_law_924 dL_law_925 dL_law_926 dL_law_927 ?_
  refine L_rd C hS1 hl 2 (by decide) hk dL_law_928 dL_law_929 dL_law_930 dL_law_931 dL_law_932 ?_
  exact kk
theorem case_likeness (C : LX G p s m args meth c) (hJ : JA x y b0 s0 np na nm nr ne g mm h) (hm0 : 24 ≤ mm 0) (hR : Rel G h H) (hS : va_S (gFree G) s.heap H locs) (hl : lv_has ls 4 (LV G x y i)) (hk : i + 6 ≤ gL G) (hc : hn h = cells + gB G) (hms : hm h = slots) (hB : ∀ h2, JJ x y b0 s0 mm h2 → hn h2 ≤ gB G + 600000 ∧ hm h2 ≤ 7302250) (k : ∀ (h2 : Hp) (H2 : Heap) (locs2 : List Loc) (cells2 slots2 : Nat), JJ x y b0 s0 mm h2 → Rel G h2 H2 → va_S (gFree G) s.heap H2 locs2 → hn h2 = cells2 + gB G → hm h2 = slots2 → W p l e room_1 s m args below meth c H2 locs2 cells2 slots2 Qw (F0 m 1876 ls [])) : W p l e room_1 s m args below meth c H locs cells slots Qw (F0 m 941 ls []) := by
  have hx := C.1.1
  have hb := C.1.2.1
  have kx : kd h x = 11 := by
    have q := hJ.2.1
    unfold JS at q
    exact q.1
  have ky : kd h y = 12 := by
    have q := hJ.1
    unfold JM at q
    exact q.1
  have hr := RunQ.mono (Q' := qI fun r h1 => RunQ l G 2 yX11_likeness cX11_likeness 3 (some .int) (va_rf (some y) :: [.int (gXs G (i + 1)), .int (gXs G (i + 2))]) h1 (qI fun r2 h2 => r = r2 ∧ JJ x y b0 s0 mm h2)) (r_X10_likeness (l := l) (G := G) (some x) (gXs G (i + 1)) (gXs G (i + 2)) (K_likeness hJ (gXs G (i + 1)) (gXs G (i + 2)) (JJ x y b0 s0 mm) (fun _ q => q))) (fun r h1 ⟨v, e, w⟩ => ⟨v, e, r_X11_likeness (some y) _ _ w⟩)
  refine lv_aload_n hx hb dL_law_941 rfl (lv_at hl 1 rfl) ?_
  refine L_rd C hS hl 1 (by decide) hk dL_law_942 dL_law_943 dL_law_944 dL_law_945 dL_law_946 ?_
  refine L_rd C hS hl 2 (by decide) hk dL_law_947 dL_law_948 dL_law_949 dL_law_950 dL_law_951 ?_
  refine L_two (As := [.int (gXs G (i + 1)), .int (gXs G (i + 2))]) C hR hS hl.1 kx ky hc hms ma_L_94 rfl ma_L_97 rfl (by decide) (by decide) (by decide) (by decide) rfl hr hB ?_ dL_law_952 dL_law_966 dL_law_969 (by decide) k
  intro H1 locs1 cells1 slots1 v hS1 kk
  refine lv_aload_n hx hb dL_law_955 rfl (lv_at hl 2 rfl) ?_
  refine L_rd C hS1 hl 1 (by decide) hk dL_law_956 dL_law_957 dL_law_958 dL_law_959 dL_law_960 ?_
  refine L_rd C hS1 hl 2 (by decide) hk dL_law_961 dL_law_962 dL_law_963 dL_law_964 dL_law_965 ?_
  exact kk
theorem case_chance (C : LX G p s m args meth c) (hJ : JA x y b0 s0 np na nm nr ne g mm h) (hm0 : 24 ≤ mm 0) (hR : Rel G h H) (hS : va_S (gFree G) s.heap H locs) (hl : lv_has ls 4 (LV G x y i)) (hk : i + 6 ≤ gL G) (hc : hn h = cells + gB G) (hms : hm h = slots) (hB : ∀ h2, JJ x y b0 s0 mm h2 → hn h2 ≤ gB G + 600000 ∧ hm h2 ≤ 7302250) (k : ∀ (h2 : Hp) (H2 : Heap) (locs2 : List Loc) (cells2 slots2 : Nat), JJ x y b0 s0 mm h2 → Rel G h2 H2 → va_S (gFree G) s.heap H2 locs2 → hn h2 = cells2 + gB G → hm h2 = slots2 → W p l e room_1 s m args below meth c H2 locs2 cells2 slots2 Qw (F0 m 1876 ls [])) : W p l e room_1 s m args below meth c H locs cells slots Qw (F0 m 974 ls []) := by
  have hx := C.1.1
  have hb := C.1.2.1
  have kx : kd h x = 11 := by
    have q := hJ.2.1
    unfold JS at q
    exact q.1
  have ky : kd h y = 12 := by
    have q := hJ.1
    unfold JM at q
    exact q.1
  have hr := RunQ.mono (Q' := qI fun r h1 => RunQ l G 3 yX11_chance cX11_chance 8 (some .int) (va_rf (some y) :: [.int (gXs G (i + 1)), .int (bz (gXs G (i + 2)))]) h1 (qI fun r2 h2 => r = r2 ∧ JJ x y b0 s0 mm h2)) (r_X10_chance (l := l) (G := G) (some x) (gXs G (i + 1)) (bz (gXs G (i + 2))) (K_chance hJ (gXs G (i + 1)) (bz (gXs G (i + 2))) (JJ x y b0 s0 mm) (fun _ q => q))) (fun r h1 ⟨v, e, w⟩ => ⟨v, e, r_X11_chance (some y) _ _ w⟩)
  refine lv_aload_n hx hb dL_law_974 rfl (lv_at hl 1 rfl) ?_
  refine L_rd C hS hl 1 (by decide) hk dL_law_975 dL_law_976 dL_law_977 dL_law_978 dL_law_979 ?_
  refine L_rdb C hS hl 2 (by decide) hk dL_law_980 dL_law_981 dL_law_982 dL_law_983 dL_law_984 dL_law_985 dL_law_988 dL_law_989 dL_law_992 ?_
  refine L_two (As := [.int (gXs G (i + 1)), .int (bz (gXs G (i + 2)))]) C hR hS hl.1 kx ky hc hms ma_L_98 rfl ma_L_102 rfl (by decide) (by decide) (by decide) (by decide) rfl hr hB ?_ dL_law_993 dL_law_1015 dL_law_1018 (by decide) k
  intro H1 locs1 cells1 slots1 v hS1 kk
  refine lv_aload_n hx hb dL_law_996 rfl (lv_at hl 2 rfl) ?_
  refine L_rd C hS1 hl 1 (by decide) hk dL_law_997 dL_law_998 dL_law_999 dL_law_1000 dL_law_1001 ?_
  refine L_rdb C hS1 hl 2 (by decide) hk dL_law_1002 dL_law_1003 dL_law_1004 dL_law_1005 dL_law_1006 dL_law_1007 dL_law_1010 dL_law_1011 dL_law_1014 ?_
  exact kk
theorem case_less (C : LX G p s m args meth c) (hJ : JA x y b0 s0 np na nm nr ne g mm h) (hm0 : 24 ≤ mm 0) (hR : Rel G h H) (hS : va_S (gFree G) s.heap H locs) (hl : lv_has ls 4 (LV G x y i)) (hk : i + 6 ≤ gL G) (hc : hn h = cells + gB G) (hms : hm h = slots) (hB : ∀ h2, JJ x y b0 s0 mm h2 → hn h2 ≤ gB G + 600000 ∧ hm h2 ≤ 7302250) (k : ∀ (h2 : Hp) (H2 : Heap) (locs2 : List Loc) (cells2 slots2 : Nat), JJ x y b0 s0 mm h2 → Rel G h2 H2 → va_S (gFree G) s.heap H2 locs2 → hn h2 = cells2 + gB G → hm h2 = slots2 → W p l e room_1 s m args below meth c H2 locs2 cells2 slots2 Qw (F0 m 1876 ls [])) : W p l e room_1 s m args below meth c H locs cells slots Qw (F0 m 1023 ls []) := by
  have hx := C.1.1
  have hb := C.1.2.1
  have kx : kd h x = 11 := by
    have q := hJ.2.1
    unfold JS at q
    exact q.1
  have ky : kd h y = 12 := by
    have q := hJ.1
    unfold JM at q
    exact q.1
  have hr := RunQ.mono (Q' := qI fun r h1 => RunQ l G 2 yX11_less cX11_less 2 (some .int) (va_rf (some y) :: [.int (gXs G (i + 1))]) h1 (qI fun r2 h2 => r = r2 ∧ JJ x y b0 s0 mm h2)) (r_X10_less (l := l) (G := G) (some x) (gXs G (i + 1)) (K_less hJ (gXs G (i + 1)) (JJ x y b0 s0 mm) (fun _ q => q))) (fun r h1 ⟨v, e, w⟩ => ⟨v, e, r_X11_less (some y) _ w⟩)
  refine lv_aload_n hx hb dL_law_1023 rfl (lv_at hl 1 rfl) ?_
  refine L_rd C hS hl 1 (by decide) hk dL_law_1024 dL_law_1025 dL_law_1026 dL_law_1027 dL_law_1028 ?_
  refine L_two (As := [.int (gXs G (i + 1))]) C hR hS hl.1 kx ky hc hms ma_L_103 rfl ma_L_106 rfl (by decide) (by decide) (by decide) (by decide) rfl hr hB ?_ dL_law_1029 dL_law_1038 dL_law_1041 (by decide) k
  intro H1 locs1 cells1 slots1 v hS1 kk
  refine lv_aload_n hx hb dL_law_1032 rfl (lv_at hl 2 rfl) ?_
  refine L_rd C hS1 hl 1 (by decide) hk dL_law_1033 dL_law_1034 dL_law_1035 dL_law_1036 dL_law_1037 ?_
  exact kk
theorem case_part (C : LX G p s m args meth c) (hJ : JA x y b0 s0 np na nm nr ne g mm h) (hm0 : 24 ≤ mm 0) (hR : Rel G h H) (hS : va_S (gFree G) s.heap H locs) (hl : lv_has ls 4 (LV G x y i)) (hk : i + 6 ≤ gL G) (hc : hn h = cells + gB G) (hms : hm h = slots) (hB : ∀ h2, JJ x y b0 s0 mm h2 → hn h2 ≤ gB G + 600000 ∧ hm h2 ≤ 7302250) (k : ∀ (h2 : Hp) (H2 : Heap) (locs2 : List Loc) (cells2 slots2 : Nat), JJ x y b0 s0 mm h2 → Rel G h2 H2 → va_S (gFree G) s.heap H2 locs2 → hn h2 = cells2 + gB G → hm h2 = slots2 → W p l e room_1 s m args below meth c H2 locs2 cells2 slots2 Qw (F0 m 1876 ls [])) : W p l e room_1 s m args below meth c H locs cells slots Qw (F0 m 1046 ls []) := by
  have hx := C.1.1
  have hb := C.1.2.1
  have kx : kd h x = 11 := by
    have q := hJ.2.1
    unfold JS at q
    exact q.1
  have ky : kd h y = 12 := by
    have q := hJ.1
    unfold JM at q
    exact q.1
  have hr := RunQ.mono (Q' := qI fun r h1 => RunQ l G 2 yX11_part cX11_part 6 (some .int) (va_rf (some y) :: [.int (gXs G (i + 1)), .int (gXs G (i + 2))]) h1 (qI fun r2 h2 => r = r2 ∧ JJ x y b0 s0 mm h2)) (r_X10_part (l := l) (G := G) (some x) (gXs G (i + 1)) (gXs G (i + 2)) (K_part hJ (gXs G (i + 1)) (gXs G (i + 2)) (JJ x y b0 s0 mm) (fun _ q => q))) (fun r h1 ⟨v, e, w⟩ => ⟨v, e, r_X11_part (some y) _ _ w⟩)
  refine lv_aload_n hx hb dL_law_1046 rfl (lv_at hl 1 rfl) ?_
  refine L_rd C hS hl 1 (by decide) hk dL_law_1047 dL_law_1048 dL_law_1049 dL_law_1050 dL_law_1051 ?_
  refine L_rd C hS hl 2 (by decide) hk dL_law_1052 dL_law_1053 dL_law_1054 dL_law_1055 dL_law_1056 ?_
  refine L_two (As := [.int (gXs G (i + 1)), .int (gXs G (i + 2))]) C hR hS hl.1 kx ky hc hms ma_L_107 rfl ma_L_110 rfl (by decide) (by decide) (by decide) (by decide) rfl hr hB ?_ dL_law_1057 dL_law_1071 dL_law_1074 (by decide) k
  intro H1 locs1 cells1 slots1 v hS1 kk
  refine lv_aload_n hx hb dL_law_1060 rfl (lv_at hl 2 rfl) ?_
  refine L_rd C hS1 hl 1 (by decide) hk dL_law_1061 dL_law_1062 dL_law_1063 dL_law_1064 dL_law_1065 ?_
  refine L_rd C hS1 hl 2 (by decide) hk dL_law_1066 dL_law_1067 dL_law_1068 dL_law_1069 dL_law_1070 ?_
  exact kk
theorem case_end (C : LX G p s m args meth c) (hJ : JA x y b0 s0 np na nm nr ne g mm h) (hm0 : 24 ≤ mm 0) (hR : Rel G h H) (hS : va_S (gFree G) s.heap H locs) (hl : lv_has ls 4 (LV G x y i)) (hk : i + 6 ≤ gL G) (hc : hn h = cells + gB G) (hms : hm h = slots) (hB : ∀ h2, JJ x y b0 s0 mm h2 → hn h2 ≤ gB G + 600000 ∧ hm h2 ≤ 7302250) (k : ∀ (h2 : Hp) (H2 : Heap) (locs2 : List Loc) (cells2 slots2 : Nat), JJ x y b0 s0 mm h2 → Rel G h2 H2 → va_S (gFree G) s.heap H2 locs2 → hn h2 = cells2 + gB G → hm h2 = slots2 → W p l e room_1 s m args below meth c H2 locs2 cells2 slots2 Qw (F0 m 1876 ls [])) : W p l e room_1 s m args below meth c H locs cells slots Qw (F0 m 1079 ls []) := by
  have hx := C.1.1
  have hb := C.1.2.1
  have kx : kd h x = 11 := by
    have q := hJ.2.1
    unfold JS at q
    exact q.1
  have ky : kd h y = 12 := by
    have q := hJ.1
    unfold JM at q
    exact q.1
  have hr := RunQ.mono (Q' := qI fun r h1 => RunQ l G 2 yX11_end cX11_end 2 (some .int) (va_rf (some y) :: [.int (gXs G (i + 1))]) h1 (qI fun r2 h2 => r = r2 ∧ JJ x y b0 s0 mm h2)) (r_X10_end (l := l) (G := G) (some x) (gXs G (i + 1)) (K_end hJ (gXs G (i + 1)) (JJ x y b0 s0 mm) (fun _ q => q))) (fun r h1 ⟨v, e, w⟩ => ⟨v, e, r_X11_end (some y) _ w⟩)
  refine lv_aload_n hx hb dL_law_1079 rfl (lv_at hl 1 rfl) ?_
  refine L_rd C hS hl 1 (by decide) hk dL_law_1080 dL_law_1081 dL_law_1082 dL_law_1083 dL_law_1084 ?_
  refine L_two (As := [.int (gXs G (i + 1))]) C hR hS hl.1 kx ky hc hms ma_L_111 rfl ma_L_114 rfl (by decide) (by decide) (by decide) (by decide) rfl hr hB ?_ dL_law_1085 dL_law_1094 dL_law_1097 (by decide) k
  intro H1 locs1 cells1 slots1 v hS1 kk
  refine lv_aload_n hx hb dL_law_1088 rfl (lv_at hl 2 rfl) ?_
  refine L_rd C hS1 hl 1 (by decide) hk dL_law_1089 dL_law_1090 dL_law_1091 dL_law_1092 dL_law_1093 ?_
  exact kk
theorem case_lost (C : LX G p s m args meth c) (hJ : JA x y b0 s0 np na nm nr ne g mm h) (hm0 : 24 ≤ mm 0) (hR : Rel G h H) (hS : va_S (gFree G) s.heap H locs) (hl : lv_has ls 4 (LV G x y i)) (hk : i + 6 ≤ gL G) (hc : hn h = cells + gB G) (hms : hm h = slots) (hB : ∀ h2, JJ x y b0 s0 mm h2 → hn h2 ≤ gB G + 600000 ∧ hm h2 ≤ 7302250) (k : ∀ (h2 : Hp) (H2 : Heap) (locs2 : List Loc) (cells2 slots2 : Nat), JJ x y b0 s0 mm h2 → Rel G h2 H2 → va_S (gFree G) s.heap H2 locs2 → hn h2 = cells2 + gB G → hm h2 = slots2 → W p l e room_1 s m args below meth c H2 locs2 cells2 slots2 Qw (F0 m 1876 ls [])) : W p l e room_1 s m args below meth c H locs cells slots Qw (F0 m 1102 ls []) := by
  have hx := C.1.1
  have hb := C.1.2.1
  have kx : kd h x = 11 := by
    have q := hJ.2.1
    unfold JS at q
    exact q.1
  have ky : kd h y = 12 := by
    have q := hJ.1
    unfold JM at q
    exact q.1
  have hr := RunQ.mono (Q' := qI fun r h1 => RunQ l G 2 yX11_lost cX11_lost 2 (some .int) (va_rf (some y) :: [.int (gXs G (i + 1))]) h1 (qI fun r2 h2 => r = r2 ∧ JJ x y b0 s0 mm h2)) (r_X10_lost (l := l) (G := G) (some x) (gXs G (i + 1)) (K_lost hJ (gXs G (i + 1)) (JJ x y b0 s0 mm) (fun _ q => q))) (fun r h1 ⟨v, e, w⟩ => ⟨v, e, r_X11_lost (some y) _ w⟩)
  refine lv_aload_n hx hb dL_law_1102 rfl (lv_at hl 1 rfl) ?_
  refine L_rd C hS hl 1 (by decide) hk dL_law_1103 dL_law_1104 dL_law_1105 dL_law_1106 dL_law_1107 ?_
  refine L_two (As := [.int (gXs G (i + 1))]) C hR hS hl.1 kx ky hc hms ma_L_115 rfl ma_L_118 rfl (by decide) (by decide) (by decide) (by decide) rfl hr hB ?_ dL_law_1108 dL_law_1117 dL_law_1120 (by decide) k
  intro H1 locs1 cells1 slots1 v hS1 kk
  refine lv_aload_n hx hb dL_law_1111 rfl (lv_at hl 2 rfl) ?_
  refine L_rd C hS1 hl 1 (by decide) hk dL_law_1112 dL_law_1113 dL_law_1114 dL_law_1115 dL_law_1116 ?_
  exact kk
theorem case_book (C : LX G p s m args meth c) (hJ : JA x y b0 s0 np na nm nr ne g mm h) (hm0 : 24 ≤ mm 0) (hR : Rel G h H) (hS : va_S (gFree G) s.heap H locs) (hl : lv_has ls 4 (LV G x y i)) (hk : i + 6 ≤ gL G) (hc : hn h = cells + gB G) (hms : hm h = slots) (hB : ∀ h2, JJ x y b0 s0 mm h2 → hn h2 ≤ gB G + 600000 ∧ hm h2 ≤ 7302250) (k : ∀ (h2 : Hp) (H2 : Heap) (locs2 : List Loc) (cells2 slots2 : Nat), JJ x y b0 s0 mm h2 → Rel G h2 H2 → va_S (gFree G) s.heap H2 locs2 → hn h2 = cells2 + gB G → hm h2 = slots2 → W p l e room_1 s m args below meth c H2 locs2 cells2 slots2 Qw (F0 m 1876 ls [])) : W p l e room_1 s m args below meth c H locs cells slots Qw (F0 m 1125 ls []) := by
  have hx := C.1.1
  have hb := C.1.2.1
  have kx : kd h x = 11 := by
    have q := hJ.2.1
    unfold JS at q
    exact q.1
  have ky : kd h y = 12 := by
    have q := hJ.1
    unfold JM at q
    exact q.1
  have hr := RunQ.mono (Q' := qI fun r h1 => RunQ l G 2 yX11_book cX11_book 5 (some .int) (va_rf (some y) :: [.int (gXs G (i + 1)), .int (gXs G (i + 2))]) h1 (qI fun r2 h2 => r = r2 ∧ JJ x y b0 s0 mm h2)) (r_X10_book (l := l) (G := G) (some x) (gXs G (i + 1)) (gXs G (i + 2)) (K_book hJ (gXs G (i + 1)) (gXs G (i + 2)) (JJ x y b0 s0 mm) (fun _ q => q))) (fun r h1 ⟨v, e, w⟩ => ⟨v, e, r_X11_book (some y) _ _ w⟩)
  refine lv_aload_n hx hb dL_law_1125 rfl (lv_at hl 1 rfl) ?_
  refine L_rd C hS hl 1 (by decide) hk dL_law_1126 dL_law_1127 dL_law_1128 dL_law_1129 dL_law_1130 ?_
  refine L_rd C hS hl 2 (by decide) hk dL_law_1131 dL_law_1132 dL_law_1133 dL_law_1134 dL_law_1135 ?_
  refine L_two (As := [.int (gXs G (i + 1)), .int (gXs G (i + 2))]) C hR hS hl.1 kx ky hc hms ma_L_119 rfl ma_L_122 rfl (by decide) (by decide) (by decide) (by decide) rfl hr hB ?_ dL_law_1136 dL_law_1150 dL_law_1153 (by decide) k
  intro H1 locs1 cells1 slots1 v hS1 kk
  refine lv_aload_n hx hb dL_law_1139 rfl (lv_at hl 2 rfl) ?_
  refine L_rd C hS1 hl 1 (by decide) hk dL_law_1140 dL_law_1141 dL_law_1142 dL_law_1143 dL_law_1144 ?_
  refine L_rd C hS1 hl 2 (by decide) hk dL_law_1145 dL_law_1146 dL_law_1147 dL_law_1148 dL_law_1149 ?_
  exact kk
theorem case_rule (C : LX G p s m args meth c) (hJ : JA x y b0 s0 np na nm nr ne g mm h) (hm0 : 24 ≤ mm 0) (hR : Rel G h H) (hS : va_S (gFree G) s.heap H locs) (hl : lv_has ls 4 (LV G x y i)) (hk : i + 6 ≤ gL G) (hc : hn h = cells + gB G) (hms : hm h = slots) (hB : ∀ h2, JJ x y b0 s0 mm h2 → hn h2 ≤ gB G + 600000 ∧ hm h2 ≤ 7302250) (k : ∀ (h2 : Hp) (H2 : Heap) (locs2 : List Loc) (cells2 slots2 : Nat), JJ x y b0 s0 mm h2 → Rel G h2 H2 → va_S (gFree G) s.heap H2 locs2 → hn h2 = cells2 + gB G → hm h2 = slots2 → W p l e room_1 s m args below meth c H2 locs2 cells2 slots2 Qw (F0 m 1876 ls [])) : W p l e room_1 s m args below meth c H locs cells slots Qw (F0 m 1158 ls []) := by
  have hx := C.1.1
  have hb := C.1.2.1
  have kx : kd h x = 11 := by
    have q := hJ.2.1
    unfold JS at q
    exact q.1
  have ky : kd h y = 12 := by
    have q := hJ.1
    unfold JM at q
    exact q.1
  have hr := RunQ.mono (Q' := qI fun r h1 => RunQ l G 7 yX11_rule cX11_rule 5 (some .int) (va_rf (some y) :: [.int (gXs G (i + 1)), .int (gXs G (i + 2)), .int (gXs G (i + 3))]) h1 (qI fun r2 h2 => r = r2 ∧ JJ x y b0 s0 mm h2)) (r_X10_rule (l := l) (G := G) (some x) (gXs G (i + 1)) (gXs G (i + 2)) (gXs G (i + 3)) (K_rule hJ (gXs G (i + 1)) (gXs G (i + 2)) (gXs G (i + 3)) (JJ x y b0 s0 mm) (fun _ q => q))) (fun r h1 ⟨v, e, w⟩ => ⟨v, e, r_X11_rule (some y) _ _ _ w⟩)
  refine lv_aload_n hx hb dL_law_1158 rfl (lv_at hl 1 rfl) ?_
  refine L_rd C hS hl 1 (by decide) hk dL_law_1159 dL_law_1160 dL_law_1161 dL_law_1162 dL_law_1163 ?_
  refine L_rd C hS hl 2 (by decide) hk dL_law_1164 dL_law_1165 dL_law_1166 dL_law_1167 dL_law_1168 ?_
  refine L_rd C hS hl 3 (by decide) hk dL_law_1169 dL_law_1170 dL_law_1171 dL_law_1172 dL_law_1173 ?_
  refine L_two (As := [.int (gXs G (i + 1)), .int (gXs G (i + 2)), .int (gXs G (i + 3))]) C hR hS hl.1 kx ky hc hms ma_L_123 rfl ma_L_126 rfl (by decide) (by decide) (by decide) (by decide) rfl hr hB ?_ dL_law_1174 dL_law_1193 dL_law_1196 (by decide) k
  intro H1 locs1 cells1 slots1 v hS1 kk
  refine lv_aload_n hx hb dL_law_1177 rfl (lv_at hl 2 rfl) ?_
  refine L_rd C hS1 hl 1 (by decide) hk dL_law_1178 dL_law_1179 dL_law_1180 dL_law_1181 dL_law_1182 ?_
  refine L_rd C hS1 hl 2 (by decide) hk dL_law_1183 dL_law_1184 dL_law_1185 dL_law_1186 dL_law_1187 ?_
  refine L_rd C hS1 hl 3 (by decide) hk dL_law_1188 dL_law_1189 dL_law_1190 dL_law_1191 dL_law_1192 ?_
  exact kk
theorem case_fault (C : LX G p s m args meth c) (hJ : JA x y b0 s0 np na nm nr ne g mm h) (hm0 : 24 ≤ mm 0) (hR : Rel G h H) (hS : va_S (gFree G) s.heap H locs) (hl : lv_has ls 4 (LV G x y i)) (hk : i + 6 ≤ gL G) (hc : hn h = cells + gB G) (hms : hm h = slots) (hB : ∀ h2, JJ x y b0 s0 mm h2 → hn h2 ≤ gB G + 600000 ∧ hm h2 ≤ 7302250) (k : ∀ (h2 : Hp) (H2 : Heap) (locs2 : List Loc) (cells2 slots2 : Nat), JJ x y b0 s0 mm h2 → Rel G h2 H2 → va_S (gFree G) s.heap H2 locs2 → hn h2 = cells2 + gB G → hm h2 = slots2 → W p l e room_1 s m args below meth c H2 locs2 cells2 slots2 Qw (F0 m 1876 ls [])) : W p l e room_1 s m args below meth c H locs cells slots Qw (F0 m 1201 ls []) := by
  have hx := C.1.1
  have hb := C.1.2.1
  have kx : kd h x = 11 := by
    have q := hJ.2.1
    unfold JS at q
    exact q.1
  have ky : kd h y = 12 := by
    have q := hJ.1
    unfold JM at q
    exact q.1
  have hr := RunQ.mono (Q' := qI fun r h1 => RunQ l G 1 yX11_fault cX11_fault 1 (some .int) (va_rf (some y) :: []) h1 (qI fun r2 h2 => r = r2 ∧ JJ x y b0 s0 mm h2)) (r_X10_fault (l := l) (G := G) (some x) (K_fault hJ (JJ x y b0 s0 mm) (fun _ q => q))) (fun r h1 ⟨v, e, w⟩ => ⟨v, e, r_X11_fault (some y) w⟩)
  refine lv_aload_n hx hb dL_law_1201 rfl (lv_at hl 1 rfl) ?_
  refine L_two (As := []) C hR hS hl.1 kx ky hc hms ma_L_127 rfl ma_L_131 rfl (by decide) (by decide) (by decide) (by decide) rfl hr hB ?_ dL_law_1202 dL_law_1206 dL_law_1209 (by decide) k
  intro H1 locs1 cells1 slots1 v hS1 kk
  refine lv_aload_n hx hb dL_law_1205 rfl (lv_at hl 2 rfl) ?_
  exact kk
theorem case_strike (C : LX G p s m args meth c) (hJ : JA x y b0 s0 np na nm nr ne g mm h) (hm0 : 24 ≤ mm 0) (hR : Rel G h H) (hS : va_S (gFree G) s.heap H locs) (hl : lv_has ls 4 (LV G x y i)) (hk : i + 6 ≤ gL G) (hc : hn h = cells + gB G) (hms : hm h = slots) (hB : ∀ h2, JJ x y b0 s0 mm h2 → hn h2 ≤ gB G + 600000 ∧ hm h2 ≤ 7302250) (k : ∀ (h2 : Hp) (H2 : Heap) (locs2 : List Loc) (cells2 slots2 : Nat), JJ x y b0 s0 mm h2 → Rel G h2 H2 → va_S (gFree G) s.heap H2 locs2 → hn h2 = cells2 + gB G → hm h2 = slots2 → W p l e room_1 s m args below meth c H2 locs2 cells2 slots2 Qw (F0 m 1876 ls [])) : W p l e room_1 s m args below meth c H locs cells slots Qw (F0 m 1214 ls []) := by
  have hx := C.1.1
  have hb := C.1.2.1
  have kx : kd h x = 11 := by
    have q := hJ.2.1
    unfold JS at q
    exact q.1
  have ky : kd h y = 12 := by
    have q := hJ.1
    unfold JM at q
    exact q.1
  have hr := RunQ.mono (Q' := qI fun r h1 => RunQ l G 2 yX11_strike cX11_strike 2 (some .int) (va_rf (some y) :: [.int (gXs G (i + 1))]) h1 (qI fun r2 h2 => r = r2 ∧ JJ x y b0 s0 mm h2)) (r_X10_strike (l := l) (G := G) (some x) (gXs G (i + 1)) (K_strike hJ (gXs G (i + 1)) (JJ x y b0 s0 mm) (fun _ q => q))) (fun r h1 ⟨v, e, w⟩ => ⟨v, e, r_X11_strike (some y) _ w⟩)
  refine lv_aload_n hx hb dL_law_1214 rfl (lv_at hl 1 rfl) ?_
  refine L_rd C hS hl 1 (by decide) hk dL_law_1215 dL_law_1216 dL_law_1217 dL_law_1218 dL_law_1219 ?_
  refine L_two (As := [.int (gXs G (i + 1))]) C hR hS hl.1 kx ky hc hms ma_L_132 rfl ma_L_135 rfl (by decide) (by decide) (by decide) (by decide) rfl hr hB ?_ dL_law_1220 dL_law_1229 dL_law_1232 (by decide) k
  intro H1 locs1 cells1 slots1 v hS1 kk
  refine lv_aload_n hx hb dL_law_1223 rfl (lv_at hl 2 rfl) ?_
  refine L_rd C hS1 hl 1 (by decide) hk dL_law_1224 dL_law_1225 dL_law_1226 dL_law_1227 dL_law_1228 ?_
  exact kk
theorem case_force (C : LX G p s m args meth c) (hJ : JA x y b0 s0 np na nm nr ne g mm h) (hm0 : 24 ≤ mm 0) (hR : Rel G h H) (hS : va_S (gFree G) s.heap H locs) (hl : lv_has ls 4 (LV G x y i)) (hk : i + 6 ≤ gL G) (hc : hn h = cells + gB G) (hms : hm h = slots) (hB : ∀ h2, JJ x y b0 s0 mm h2 → hn h2 ≤ gB G + 600000 ∧ hm h2 ≤ 7302250) (k : ∀ (h2 : Hp) (H2 : Heap) (locs2 : List Loc) (cells2 slots2 : Nat), JJ x y b0 s0 mm h2 → Rel G h2 H2 → va_S (gFree G) s.heap H2 locs2 → hn h2 = cells2 + gB G → hm h2 = slots2 → W p l e room_1 s m args below meth c H2 locs2 cells2 slots2 Qw (F0 m 1876 ls [])) : W p l e room_1 s m args below meth c H locs cells slots Qw (F0 m 1237 ls []) := by
  have hx := C.1.1
  have hb := C.1.2.1
  have kx : kd h x = 11 := by
    have q := hJ.2.1
    unfold JS at q
    exact q.1
  have ky : kd h y = 12 := by
    have q := hJ.1
    unfold JM at q
    exact q.1
  have hr := RunQ.mono (Q' := qI fun r h1 => RunQ l G 1 yX11_force cX11_force 5 (some .int) (va_rf (some y) :: [.int (gXs G (i + 1)), .int (gXs G (i + 2))]) h1 (qI fun r2 h2 => r = r2 ∧ JJ x y b0 s0 mm h2)) (r_X10_force (l := l) (G := G) (some x) (gXs G (i + 1)) (gXs G (i + 2)) (K_force hJ (gXs G (i + 1)) (gXs G (i + 2)) (JJ x y b0 s0 mm) (fun _ q => q))) (fun r h1 ⟨v, e, w⟩ => ⟨v, e, r_X11_force (some y) _ _ w⟩)
  refine lv_aload_n hx hb dL_law_1237 rfl (lv_at hl 1 rfl) ?_
  refine L_rd C hS hl 1 (by decide) hk dL_law_1238 dL_law_1239 dL_law_1240 dL_law_1241 dL_law_1242 ?_
  refine L_rd C hS hl 2 (by decide) hk dL_law_1243 dL_law_1244 dL_law_1245 dL_law_1246 dL_law_1247 ?_
  refine L_two (As := [.int (gXs G (i + 1)), .int (gXs G (i + 2))]) C hR hS hl.1 kx ky hc hms ma_L_136 rfl ma_L_139 rfl (by decide) (by decide) (by decide) (by decide) rfl hr hB ?_ dL_law_1248 dL_law_1262 dL_law_1265 (by decide) k
  intro H1 locs1 cells1 slots1 v hS1 kk
  refine lv_aload_n hx hb dL_law_1251 rfl (lv_at hl 2 rfl) ?_
  refine L_rd C hS1 hl 1 (by decide) hk dL_law_1252 dL_law_1253 dL_law_1254 dL_law_1255 dL_law_1256 ?_
  refine L_rd C hS1 hl 2 (by decide) hk dL_law_1257 dL_law_1258 dL_law_1259 dL_law_1260 dL_law_1261 ?_
  exact kk
theorem case_vote (C : LX G p s m args meth c) (hJ : JA x y b0 s0 np na nm nr ne g mm h) (hm0 : 24 ≤ mm 0) (hR : Rel G h H) (hS : va_S (gFree G) s.heap H locs) (hl : lv_has ls 4 (LV G x y i)) (hk : i + 6 ≤ gL G) (hc : hn h = cells + gB G) (hms : hm h = slots) (hB : ∀ h2, JJ x y b0 s0 mm h2 → hn h2 ≤ gB G + 600000 ∧ hm h2 ≤ 7302250) (k : ∀ (h2 : Hp) (H2 : Heap) (locs2 : List Loc) (cells2 slots2 : Nat), JJ x y b0 s0 mm h2 → Rel G h2 H2 → va_S (gFree G) s.heap H2 locs2 → hn h2 = cells2 + gB G → hm h2 = slots2 → W p l e room_1 s m args below meth c H2 locs2 cells2 slots2 Qw (F0 m 1876 ls [])) : W p l e room_1 s m args below meth c H locs cells slots Qw (F0 m 1270 ls []) := by
  have hx := C.1.1
  have hb := C.1.2.1
  have kx : kd h x = 11 := by
    have q := hJ.2.1
    unfold JS at q
    exact q.1
  have ky : kd h y = 12 := by
    have q := hJ.1
    unfold JM at q
    exact q.1
  have hr := RunQ.mono (Q' := qI fun r h1 => RunQ l G 2 yX11_vote cX11_vote 5 (some .int) (va_rf (some y) :: [.int (gXs G (i + 1)), .int (gXs G (i + 2)), .int (gXs G (i + 3))]) h1 (qI fun r2 h2 => r = r2 ∧ JJ x y b0 s0 mm h2)) (r_X10_vote (l := l) (G := G) (some x) (gXs G (i + 1)) (gXs G (i + 2)) (gXs G (i + 3)) (K_vote hJ (gXs G (i + 1)) (gXs G (i + 2)) (gXs G (i + 3)) (JJ x y b0 s0 mm) (fun _ q => q))) (fun r h1 ⟨v, e, w⟩ => ⟨v, e, r_X11_vote (some y) _ _ _ w⟩)
  refine lv_aload_n hx hb dL_law_1270 rfl (lv_at hl 1 rfl) ?_
  refine L_rd C hS hl 1 (by decide) hk dL_law_1271 dL_law_1272 dL_law_1273 dL_law_1274 dL_law_1275 ?_
  refine L_rd C hS hl 2 (by decide) hk dL_law_1276 dL_law_1277 dL_law_1278 dL_law_1279 dL_law_1280 ?_
  refine L_rd C hS hl 3 (by decide) hk dL_law_1281 dL_law_1282 dL_law_1283 dL_law_1284 dL_law_1285 ?_
  refine L_two (As := [.int (gXs G (i + 1)), .int (gXs G (i + 2)), .int (gXs G (i + 3))]) C hR hS hl.1 kx ky hc hms ma_L_140 rfl ma_L_143 rfl (by decide) (by decide) (by decide) (by decide) rfl hr hB ?_ dL_law_1286 dL_law_1305 dL_law_1308 (by decide) k
  intro H1 locs1 cells1 slots1 v hS1 kk
  refine lv_aload_n hx hb dL_law_1289 rfl (lv_at hl 2 rfl) ?_
  refine L_rd C hS1 hl 1 (by decide) hk dL_law_1290 dL_law_1291 dL_law_1292 dL_law_1293 dL_law_1294 ?_
  refine L_rd C hS1 hl 2 (by decide) hk dL_law_1295 dL_law_1296 dL_law_1297 dL_law_1298 dL_law_1299 ?_
  refine L_rd C hS1 hl 3 (by decide) hk dL_law_1300 dL_law_1301 dL_law_1302 dL_law_1303 dL_law_1304 ?_
  exact kk
theorem case_make (C : LX G p s m args meth c) (hJ : JA x y b0 s0 np na nm nr ne g mm h) (hm0 : 24 ≤ mm 0) (hR : Rel G h H) (hS : va_S (gFree G) s.heap H locs) (hl : lv_has ls 4 (LV G x y i)) (hk : i + 6 ≤ gL G) (hc : hn h = cells + gB G) (hms : hm h = slots) (hB : ∀ h2, JJ x y b0 s0 mm h2 → hn h2 ≤ gB G + 600000 ∧ hm h2 ≤ 7302250) (k : ∀ (h2 : Hp) (H2 : Heap) (locs2 : List Loc) (cells2 slots2 : Nat), JJ x y b0 s0 mm h2 → Rel G h2 H2 → va_S (gFree G) s.heap H2 locs2 → hn h2 = cells2 + gB G → hm h2 = slots2 → W p l e room_1 s m args below meth c H2 locs2 cells2 slots2 Qw (F0 m 1876 ls [])) : W p l e room_1 s m args below meth c H locs cells slots Qw (F0 m 1313 ls []) := by
  have hx := C.1.1
  have hb := C.1.2.1
  have kx : kd h x = 11 := by
    have q := hJ.2.1
    unfold JS at q
    exact q.1
  have ky : kd h y = 12 := by
    have q := hJ.1
    unfold JM at q
    exact q.1
  have hr := RunQ.mono (Q' := qI fun r h1 => RunQ l G 5 yX11_make cX11_make 8 (some .int) (va_rf (some y) :: [.int (gXs G (i + 1))]) h1 (qI fun r2 h2 => r = r2 ∧ JJ x y b0 s0 mm h2)) (r_X10_make (l := l) (G := G) (some x) (gXs G (i + 1)) (K_make hJ hm0 (gXs G (i + 1)) (JJ x y b0 s0 mm) (fun _ q => q))) (fun r h1 ⟨v, e, w⟩ => ⟨v, e, r_X11_make (some y) _ w⟩)
  refine lv_aload_n hx hb dL_law_1313 rfl (lv_at hl 1 rfl) ?_
  refine L_rd C hS hl 1 (by decide) hk dL_law_1314 dL_law_1315 dL_law_1316 dL_law_1317 dL_law_1318 ?_
  refine L_two (As := [.int (gXs G (i + 1))]) C hR hS hl.1 kx ky hc hms ma_L_144 rfl ma_L_147 rfl (by decide) (by decide) (by decide) (by decide) rfl hr hB ?_ dL_law_1319 dL_law_1328 dL_law_1331 (by decide) k
  intro H1 locs1 cells1 slots1 v hS1 kk
  refine lv_aload_n hx hb dL_law_1322 rfl (lv_at hl 2 rfl) ?_
  refine L_rd C hS1 hl 1 (by decide) hk dL_law_1323 dL_law_1324 dL_law_1325 dL_law_1326 dL_law_1327 ?_
  exact kk
theorem case_count (C : LX G p s m args meth c) (hJ : JA x y b0 s0 np na nm nr ne g mm h) (hm0 : 24 ≤ mm 0) (hR : Rel G h H) (hS : va_S (gFree G) s.heap H locs) (hl : lv_has ls 4 (LV G x y i)) (hk : i + 6 ≤ gL G) (hc : hn h = cells + gB G) (hms : hm h = slots) (hB : ∀ h2, JJ x y b0 s0 mm h2 → hn h2 ≤ gB G + 600000 ∧ hm h2 ≤ 7302250) (k : ∀ (h2 : Hp) (H2 : Heap) (locs2 : List Loc) (cells2 slots2 : Nat), JJ x y b0 s0 mm h2 → Rel G h2 H2 → va_S (gFree G) s.heap H2 locs2 → hn h2 = cells2 + gB G → hm h2 = slots2 → W p l e room_1 s m args below meth c H2 locs2 cells2 slots2 Qw (F0 m 1876 ls [])) : W p l e room_1 s m args below meth c H locs cells slots Qw (F0 m 1336 ls []) := by
  have hx := C.1.1
  have hb := C.1.2.1
  have kx : kd h x = 11 := by
    have q := hJ.2.1
    unfold JS at q
    exact q.1
  have ky : kd h y = 12 := by
    have q := hJ.1
    unfold JM at q
    exact q.1
  have hr := RunQ.mono (Q' := qI fun r h1 => RunQ l G 3 yX11_count cX11_count 7 (some .int) (va_rf (some y) :: [.int (gXs G (i + 1)), .int (gXs G (i + 2)), .int (gXs G (i + 3)), .int (bz (gXs G (i + 4)))]) h1 (qI fun r2 h2 => r = r2 ∧ JJ x y b0 s0 mm h2)) (r_X10_count (l := l) (G := G) (some x) (gXs G (i + 1)) (gXs G (i + 2)) (gXs G (i + 3)) (bz (gXs G (i + 4))) (K_count hJ (gXs G (i + 1)) (gXs G (i + 2)) (gXs G (i + 3)) (bz (gXs G (i + 4))) (JJ x y b0 s0 mm) (fun _ q => q))) (fun r h1 ⟨v, e, w⟩ => ⟨v, e, r_X11_count (some y) _ _ _ _ w⟩)
  refine lv_aload_n hx hb dL_law_1336 rfl (lv_at hl 1 rfl) ?_
  refine L_rd C hS hl 1 (by decide) hk dL_law_1337 dL_law_1338 dL_law_1339 dL_law_1340 dL_law_1341 ?_
  refine L_rd C hS hl 2 (by decide) hk dL_law_1342 dL_law_1343 dL_law_1344 dL_law_1345 dL_law_1346 ?_
  refine L_rd C hS hl 3 (by decide) hk dL_law_1347 dL_law_1348 dL_law_1349 dL_law_1350 dL_law_1351 ?_
  refine L_rdb C hS hl 4 (by decide) hk dL_law_1352 dL_law_1353 dL_law_1354 dL_law_1355 dL_law_1356 dL_law_1357 dL_law_1360 dL_law_1361 dL_law_1364 ?_
  refine L_two (As := [.int (gXs G (i + 1)), .int (gXs G (i + 2)), .int (gXs G (i + 3)), .int (bz (gXs G (i + 4)))]) C hR hS hl.1 kx ky hc hms ma_L_148 rfl ma_L_152 rfl (by decide) (by decide) (by decide) (by decide) rfl hr hB ?_ dL_law_1365 dL_law_1397 dL_law_1400 (by decide) k
  intro H1 locs1 cells1 slots1 v hS1 kk
  refine lv_aload_n hx hb dL_law_1368 rfl (lv_at hl 2 rfl) ?_
  refine L_rd C hS1 hl 1 (by decide) hk dL_law_1369 dL_law_1370 dL_law_1371 dL_law_1372 dL_law_1373 ?_
  refine L_rd C hS1 hl 2 (by decide) hk dL_law_1374 dL_law_1375 dL_law_1376 dL_law_1377 dL_law_1378 ?_
  refine L_rd C hS1 hl 3 (by decide) hk dL_law_1379 dL_law_1380 dL_law_1381 dL_law_1382 dL_law_1383 ?_
  refine L_rdb C hS1 hl 4 (by decide) hk dL_law_1384 dL_law_1385 dL_law_1386 dL_law_1387 dL_law_1388 dL_law_1389 dL_law_1392 dL_law_1393 dL_law_1396 ?_
  exact kk
theorem case_asked (C : LX G p s m args meth c) (hJ : JA x y b0 s0 np na nm nr ne g mm h) (hm0 : 24 ≤ mm 0) (hR : Rel G h H) (hS : va_S (gFree G) s.heap H locs) (hl : lv_has ls 4 (LV G x y i)) (hk : i + 6 ≤ gL G) (hc : hn h = cells + gB G) (hms : hm h = slots) (hB : ∀ h2, JJ x y b0 s0 mm h2 → hn h2 ≤ gB G + 600000 ∧ hm h2 ≤ 7302250) (k : ∀ (h2 : Hp) (H2 : Heap) (locs2 : List Loc) (cells2 slots2 : Nat), JJ x y b0 s0 mm h2 → Rel G h2 H2 → va_S (gFree G) s.heap H2 locs2 → hn h2 = cells2 + gB G → hm h2 = slots2 → W p l e room_1 s m args below meth c H2 locs2 cells2 slots2 Qw (F0 m 1876 ls [])) : W p l e room_1 s m args below meth c H locs cells slots Qw (F0 m 1405 ls []) := by
  have hx := C.1.1
  have hb := C.1.2.1
  have kx : kd h x = 11 := by
    have q := hJ.2.1
    unfold JS at q
    exact q.1
  have ky : kd h y = 12 := by
    have q := hJ.1
    unfold JM at q
    exact q.1
  have hr := RunQ.mono (Q' := qI fun r h1 => RunQ l G 2 yX11_asked cX11_asked 12 (some .int) (va_rf (some y) :: [.int (gXs G (i + 1)), .int (gXs G (i + 2)), .int (gXs G (i + 3)), .int (gXs G (i + 4)), .int (gXs G (i + 5))]) h1 (qI fun r2 h2 => r = r2 ∧ JJ x y b0 s0 mm h2)) (r_X10_asked (l := l) (G := G) (some x) (gXs G (i + 1)) (gXs G (i + 2)) (gXs G (i + 3)) (gXs G (i + 4)) (gXs G (i + 5)) (K_asked hJ (gXs G (i + 1)) (gXs G (i + 2)) (gXs G (i + 3)) (gXs G (i + 4)) (gXs G (i + 5)) (JJ x y b0 s0 mm) (fun _ q => q))) (fun r h1 ⟨v, e, w⟩ => ⟨v, e, r_X11_asked (some y) _ _ _ _ _ w⟩)
  refine lv_aload_n hx hb dL_law_1405 rfl (lv_at hl 1 rfl) ?_
  refine L_rd C hS hl 1 (by decide) hk dL_law_1406 dL_law_1407 dL_law_1408 dL_law_1409 dL_law_1410 ?_
  refine L_rd C hS hl 2 (by decide) hk dL_law_1411 dL_law_1412 dL_law_1413 dL_law_1414 dL_law_1415 ?_
  refine L_rd C hS hl 3 (by decide) hk dL_law_1416 dL_law_1417 dL_law_1418 dL_law_1419 dL_law_1420 ?_
  refine L_rd C hS hl 4 (by decide) hk dL_law_1421 dL_law_1422 dL_law_1423 dL_law_1424 dL_law_1425 ?_
  refine L_rd C hS hl 5 (by decide) hk dL_law_1426 dL_law_1427 dL_law_1428 dL_law_1429 dL_law_1430 ?_
  refine L_two (As := [.int (gXs G (i + 1)), .int (gXs G (i + 2)), .int (gXs G (i + 3)), .int (gXs G (i + 4)), .int (gXs G (i + 5))]) C hR hS hl.1 kx ky hc hms ma_L_153 rfl ma_L_156 rfl (by decide) (by decide) (by decide) (by decide) rfl hr hB ?_ dL_law_1431 dL_law_1460 dL_law_1463 (by decide) k
  intro H1 locs1 cells1 slots1 v hS1 kk
  refine lv_aload_n hx hb dL_law_1434 rfl (lv_at hl 2 rfl) ?_
  refine L_rd C hS1 hl 1 (by decide) hk dL_law_1435 dL_law_1436 dL_law_1437 dL_law_1438 dL_law_1439 ?_
  refine L_rd C hS1 hl 2 (by decide) hk dL_law_1440 dL_law_1441 dL_law_1442 dL_law_1443 dL_law_1444 ?_
  refine L_rd C hS1 hl 3 (by decide) hk dL_law_1445 dL_law_1446 dL_law_1447 dL_law_1448 dL_law_1449 ?_
  refine L_rd C hS1 hl 4 (by decide) hk dL_law_1450 dL_law_1451 dL_law_1452 dL_law_1453 dL_law_1454 ?_
  refine L_rd C hS1 hl 5 (by decide) hk dL_law_1455 dL_law_1456 dL_law_1457 dL_law_1458 dL_law_1459 ?_
  exact kk
theorem case_person (C : LX G p s m args meth c) (hJ : JA x y b0 s0 np na nm nr ne g mm h) (hm0 : 24 ≤ mm 0) (hR : Rel G h H) (hS : va_S (gFree G) s.heap H locs) (hl : lv_has ls 4 (LV G x y i)) (hk : i + 6 ≤ gL G) (hc : hn h = cells + gB G) (hms : hm h = slots) (hB : ∀ h2, JJ x y b0 s0 mm h2 → hn h2 ≤ gB G + 600000 ∧ hm h2 ≤ 7302250) (k : ∀ (h2 : Hp) (H2 : Heap) (locs2 : List Loc) (cells2 slots2 : Nat), JJ x y b0 s0 mm h2 → Rel G h2 H2 → va_S (gFree G) s.heap H2 locs2 → hn h2 = cells2 + gB G → hm h2 = slots2 → W p l e room_1 s m args below meth c H2 locs2 cells2 slots2 Qw (F0 m 1876 ls [])) : W p l e room_1 s m args below meth c H locs cells slots Qw (F0 m 1468 ls []) := by
  have hx := C.1.1
  have hb := C.1.2.1
  have kx : kd h x = 11 := by
    have q := hJ.2.1
    unfold JS at q
    exact q.1
  have ky : kd h y = 12 := by
    have q := hJ.1
    unfold JM at q
    exact q.1
  have hr := RunQ.mono (Q' := qI fun r h1 => RunQ l G 2 yX11_person cX11_person 3 (some .int) (va_rf (some y) :: [.int (gXs G (i + 1)), .int (gXs G (i + 2))]) h1 (qI fun r2 h2 => r = r2 ∧ JJ x y b0 s0 mm h2)) (r_X10_person (l := l) (G := G) (some x) (gXs G (i + 1)) (gXs G (i + 2)) (K_person hJ (gXs G (i + 1)) (gXs G (i + 2)) (JJ x y b0 s0 mm) (fun _ q => q))) (fun r h1 ⟨v, e, w⟩ => ⟨v, e, r_X11_person (some y) _ _ w⟩)
  refine lv_aload_n hx hb dL_law_1468 rfl (lv_at hl 1 rfl) ?_
  refine L_rd C hS hl 1 (by decide) hk dL_law_1469 dL_law_1470 dL_law_1471 dL_law_1472 dL_law_1473 ?_
  refine L_rd C hS hl 2 (by decide) hk dL_law_1474 dL_law_1475 dL_law_1476 dL_law_1477 dL_law_1478 ?_
  refine L_two (As := [.int (gXs G (i + 1)), .int (gXs G (i + 2))]) C hR hS hl.1 kx ky hc hms ma_L_157 rfl ma_L_160 rfl (by decide) (by decide) (by decide) (by decide) rfl hr hB ?_ dL_law_1479 dL_law_1493 dL_law_1496 (by decide) k
  intro H1 locs1 cells1 slots1 v hS1 kk
  refine lv_aload_n hx hb dL_law_1482 rfl (lv_at hl 2 rfl) ?_
  refine L_rd C hS1 hl 1 (by decide) hk dL_law_1483 dL_law_1484 dL_law_1485 dL_law_1486 dL_law_1487 ?_
  refine L_rd C hS1 hl 2 (by decide) hk dL_law_1488 dL_law_1489 dL_law_1490 dL_law_1491 dL_law_1492 ?_
  exact kk
theorem case_choose (C : LX G p s m args meth c) (hJ : JA x y b0 s0 np na nm nr ne g mm h) (hm0 : 24 ≤ mm 0) (hR : Rel G h H) (hS : va_S (gFree G) s.heap H locs) (hl : lv_has ls 4 (LV G x y i)) (hk : i + 6 ≤ gL G) (hc : hn h = cells + gB G) (hms : hm h = slots) (hB : ∀ h2, JJ x y b0 s0 mm h2 → hn h2 ≤ gB G + 600000 ∧ hm h2 ≤ 7302250) (k : ∀ (h2 : Hp) (H2 : Heap) (locs2 : List Loc) (cells2 slots2 : Nat), JJ x y b0 s0 mm h2 → Rel G h2 H2 → va_S (gFree G) s.heap H2 locs2 → hn h2 = cells2 + gB G → hm h2 = slots2 → W p l e room_1 s m args below meth c H2 locs2 cells2 slots2 Qw (F0 m 1876 ls [])) : W p l e room_1 s m args below meth c H locs cells slots Qw (F0 m 1501 ls []) := by
  have hx := C.1.1
  have hb := C.1.2.1
  have kx : kd h x = 11 := by
    have q := hJ.2.1
    unfold JS at q
    exact q.1
  have ky : kd h y = 12 := by
    have q := hJ.1
    unfold JM at q
    exact q.1
  have hr := RunQ.mono (Q' := qI fun r h1 => RunQ l G 3 yX11_choose cX11_choose 10 (some .int) (va_rf (some y) :: [.int (gXs G (i + 1)), .int (gXs G (i + 2))]) h1 (qI fun r2 h2 => r = r2 ∧ JJ x y b0 s0 mm h2)) (r_X10_choose (l := l) (G := G) (some x) (gXs G (i + 1)) (gXs G (i + 2)) (K_choose hJ (gXs G (i + 1)) (gXs G (i + 2)) (JJ x y b0 s0 mm) (fun _ q => q))) (fun r h1 ⟨v, e, w⟩ => ⟨v, e, r_X11_choose (some y) _ _ w⟩)
  refine lv_aload_n hx hb dL_law_1501 rfl (lv_at hl 1 rfl) ?_
  refine L_rd C hS hl 1 (by decide) hk dL_law_1502 dL_law_1503 dL_law_1504 dL_law_1505 dL_law_1506 ?_
  refine L_rd C hS hl 2 (by decide) hk dL_law_1507 dL_law_1508 dL_law_1509 dL_law_1510 dL_law_1511 ?_
  refine L_two (As := [.int (gXs G (i + 1)), .int (gXs G (i + 2))]) C hR hS hl.1 kx ky hc hms ma_L_161 rfl ma_L_164 rfl (by decide) (by decide) (by decide) (by decide) rfl hr hB ?_ dL_law_1512 dL_law_1526 dL_law_1529 (by decide) k
  intro H1 locs1 cells1 slots1 v hS1 kk
  refine lv_aload_n hx hb dL_law_1515 rfl (lv_at hl 2 rfl) ?_
  refine L_rd C hS1 hl 1 (by decide) hk dL_law_1516 dL_law_1517 dL_law_1518 dL_law_1519 dL_law_1520 ?_
  refine L_rd C hS1 hl 2 (by decide) hk dL_law_1521 dL_law_1522 dL_law_1523 dL_law_1524 dL_law_1525 ?_
  exact kk
theorem case_unchoose (C : LX G p s m args meth c) (hJ : JA x y b0 s0 np na nm nr ne g mm h) (hm0 : 24 ≤ mm 0) (hR : Rel G h H) (hS : va_S (gFree G) s.heap H locs) (hl : lv_has ls 4 (LV G x y i)) (hk : i + 6 ≤ gL G) (hc : hn h = cells + gB G) (hms : hm h = slots) (hB : ∀ h2, JJ x y b0 s0 mm h2 → hn h2 ≤ gB G + 600000 ∧ hm h2 ≤ 7302250) (k : ∀ (h2 : Hp) (H2 : Heap) (locs2 : List Loc) (cells2 slots2 : Nat), JJ x y b0 s0 mm h2 → Rel G h2 H2 → va_S (gFree G) s.heap H2 locs2 → hn h2 = cells2 + gB G → hm h2 = slots2 → W p l e room_1 s m args below meth c H2 locs2 cells2 slots2 Qw (F0 m 1876 ls [])) : W p l e room_1 s m args below meth c H locs cells slots Qw (F0 m 1534 ls []) := by
  have hx := C.1.1
  have hb := C.1.2.1
  have kx : kd h x = 11 := by
    have q := hJ.2.1
    unfold JS at q
    exact q.1
  have ky : kd h y = 12 := by
    have q := hJ.1
    unfold JM at q
    exact q.1
  have hr := RunQ.mono (Q' := qI fun r h1 => RunQ l G 2 yX11_unchoose cX11_unchoose 5 (some .int) (va_rf (some y) :: [.int (gXs G (i + 1))]) h1 (qI fun r2 h2 => r = r2 ∧ JJ x y b0 s0 mm h2)) (r_X10_unchoose (l := l) (G := G) (some x) (gXs G (i + 1)) (K_unchoose hJ (gXs G (i + 1)) (JJ x y b0 s0 mm) (fun _ q => q))) (fun r h1 ⟨v, e, w⟩ => ⟨v, e, r_X11_unchoose (some y) _ w⟩)
  refine lv_aload_n hx hb dL_law_1534 rfl (lv_at hl 1 rfl) ?_
  refine L_rd C hS hl 1 (by decide) hk dL_law_1535 dL_law_1536 dL_law_1537 dL_law_1538 dL_law_1539 ?_
  refine L_two (As := [.int (gXs G (i + 1))]) C hR hS hl.1 kx ky hc hms ma_L_165 rfl ma_L_168 rfl (by decide) (by decide) (by decide) (by decide) rfl hr hB ?_ dL_law_1540 dL_law_1549 dL_law_1552 (by decide) k
  intro H1 locs1 cells1 slots1 v hS1 kk
  refine lv_aload_n hx hb dL_law_1543 rfl (lv_at hl 2 rfl) ?_
  refine L_rd C hS1 hl 1 (by decide) hk dL_law_1544 dL_law_1545 dL_law_1546 dL_law_1547 dL_law_1548 ?_
  exact kk
theorem case_bind (C : LX G p s m args meth c) (hJ : JA x y b0 s0 np na nm nr ne g mm h) (hm0 : 24 ≤ mm 0) (hR : Rel G h H) (hS : va_S (gFree G) s.heap H locs) (hl : lv_has ls 4 (LV G x y i)) (hk : i + 6 ≤ gL G) (hc : hn h = cells + gB G) (hms : hm h = slots) (hB : ∀ h2, JJ x y b0 s0 mm h2 → hn h2 ≤ gB G + 600000 ∧ hm h2 ≤ 7302250) (k : ∀ (h2 : Hp) (H2 : Heap) (locs2 : List Loc) (cells2 slots2 : Nat), JJ x y b0 s0 mm h2 → Rel G h2 H2 → va_S (gFree G) s.heap H2 locs2 → hn h2 = cells2 + gB G → hm h2 = slots2 → W p l e room_1 s m args below meth c H2 locs2 cells2 slots2 Qw (F0 m 1876 ls [])) : W p l e room_1 s m args below meth c H locs cells slots Qw (F0 m 1557 ls []) := by
  have hx := C.1.1
  have hb := C.1.2.1
  have kx : kd h x = 11 := by
    have q := hJ.2.1
    unfold JS at q
    exact q.1
  have ky : kd h y = 12 := by
    have q := hJ.1
    unfold JM at q
    exact q.1
  have hr := RunQ.mono (Q' := qI fun r h1 => RunQ l G 2 yX11_bind cX11_bind 2 (some .int) (va_rf (some y) :: [.int (gXs G (i + 1))]) h1 (qI fun r2 h2 => r = r2 ∧ JJ x y b0 s0 mm h2)) (r_X10_bind (l := l) (G := G) (some x) (gXs G (i + 1)) (K_bind hJ (gXs G (i + 1)) (JJ x y b0 s0 mm) (fun _ q => q))) (fun r h1 ⟨v, e, w⟩ => ⟨v, e, r_X11_bind (some y) _ w⟩)
  refine lv_aload_n hx hb dL_law_1557 rfl (lv_at hl 1 rfl) ?_
  refine L_rd C hS hl 1 (by decide) hk dL_law_1558 dL_law_1559 dL_law_1560 dL_law_1561 dL_law_1562 ?_
  refine L_two (As := [.int (gXs G (i + 1))]) C hR hS hl.1 kx ky hc hms ma_L_169 rfl ma_L_172 rfl (by decide) (by decide) (by decide) (by decide) rfl hr hB ?_ dL_law_1563 dL_law_1572 dL_law_1575 (by decide) k
  intro H1 locs1 cells1 slots1 v hS1 kk
  refine lv_aload_n hx hb dL_law_1566 rfl (lv_at hl 2 rfl) ?_
  refine L_rd C hS1 hl 1 (by decide) hk dL_law_1567 dL_law_1568 dL_law_1569 dL_law_1570 dL_law_1571 ?_
  exact kk
theorem case_unbind (C : LX G p s m args meth c) (hJ : JA x y b0 s0 np na nm nr ne g mm h) (hm0 : 24 ≤ mm 0) (hR : Rel G h H) (hS : va_S (gFree G) s.heap H locs) (hl : lv_has ls 4 (LV G x y i)) (hk : i + 6 ≤ gL G) (hc : hn h = cells + gB G) (hms : hm h = slots) (hB : ∀ h2, JJ x y b0 s0 mm h2 → hn h2 ≤ gB G + 600000 ∧ hm h2 ≤ 7302250) (k : ∀ (h2 : Hp) (H2 : Heap) (locs2 : List Loc) (cells2 slots2 : Nat), JJ x y b0 s0 mm h2 → Rel G h2 H2 → va_S (gFree G) s.heap H2 locs2 → hn h2 = cells2 + gB G → hm h2 = slots2 → W p l e room_1 s m args below meth c H2 locs2 cells2 slots2 Qw (F0 m 1876 ls [])) : W p l e room_1 s m args below meth c H locs cells slots Qw (F0 m 1580 ls []) := by
  have hx := C.1.1
  have hb := C.1.2.1
  have kx : kd h x = 11 := by
    have q := hJ.2.1
    unfold JS at q
    exact q.1
  have ky : kd h y = 12 := by
    have q := hJ.1
    unfold JM at q
    exact q.1
  have hr := RunQ.mono (Q' := qI fun r h1 => RunQ l G 2 yX11_unbind cX11_unbind 2 (some .int) (va_rf (some y) :: [.int (gXs G (i + 1))]) h1 (qI fun r2 h2 => r = r2 ∧ JJ x y b0 s0 mm h2)) (r_X10_unbind (l := l) (G := G) (some x) (gXs G (i + 1)) (K_unbind hJ (gXs G (i + 1)) (JJ x y b0 s0 mm) (fun _ q => q))) (fun r h1 ⟨v, e, w⟩ => ⟨v, e, r_X11_unbind (some y) _ w⟩)
  refine lv_aload_n hx hb dL_law_1580 rfl (lv_at hl 1 rfl) ?_
  refine L_rd C hS hl 1 (by decide) hk dL_law_1581 dL_law_1582 dL_law_1583 dL_law_1584 dL_law_1585 ?_
  refine L_two (As := [.int (gXs G (i + 1))]) C hR hS hl.1 kx ky hc hms ma_L_173 rfl ma_L_176 rfl (by decide) (by decide) (by decide) (by decide) rfl hr hB ?_ dL_law_1586 dL_law_1595 dL_law_1598 (by decide) k
  intro H1 locs1 cells1 slots1 v hS1 kk
  refine lv_aload_n hx hb dL_law_1589 rfl (lv_at hl 2 rfl) ?_
  refine L_rd C hS1 hl 1 (by decide) hk dL_law_1590 dL_law_1591 dL_law_1592 dL_law_1593 dL_law_1594 ?_
  exact kk
theorem case_give (C : LX G p s m args meth c) (hJ : JA x y b0 s0 np na nm nr ne g mm h) (hm0 : 24 ≤ mm 0) (hR : Rel G h H) (hS : va_S (gFree G) s.heap H locs) (hl : lv_has ls 4 (LV G x y i)) (hk : i + 6 ≤ gL G) (hc : hn h = cells + gB G) (hms : hm h = slots) (hB : ∀ h2, JJ x y b0 s0 mm h2 → hn h2 ≤ gB G + 600000 ∧ hm h2 ≤ 7302250) (k : ∀ (h2 : Hp) (H2 : Heap) (locs2 : List Loc) (cells2 slots2 : Nat), JJ x y b0 s0 mm h2 → Rel G h2 H2 → va_S (gFree G) s.heap H2 locs2 → hn h2 = cells2 + gB G → hm h2 = slots2 → W p l e room_1 s m args below meth c H2 locs2 cells2 slots2 Qw (F0 m 1876 ls [])) : W p l e room_1 s m args below meth c H locs cells slots Qw (F0 m 1603 ls []) := by
  have hx := C.1.1
  have hb := C.1.2.1
  have kx : kd h x = 11 := by
    have q := hJ.2.1
    unfold JS at q
    exact q.1
  have ky : kd h y = 12 := by
    have q := hJ.1
    unfold JM at q
    exact q.1
  have hr := RunQ.mono (Q' := qI fun r h1 => RunQ l G 2 yX11_give cX11_give 2 (some .int) (va_rf (some y) :: [.int (gXs G (i + 1))]) h1 (qI fun r2 h2 => r = r2 ∧ JJ x y b0 s0 mm h2)) (r_X10_give (l := l) (G := G) (some x) (gXs G (i + 1)) (K_give hJ (gXs G (i + 1)) (JJ x y b0 s0 mm) (fun _ q => q))) (fun r h1 ⟨v, e, w⟩ => ⟨v, e, r_X11_give (some y) _ w⟩)
  refine lv_aload_n hx hb dL_law_1603 rfl (lv_at hl 1 rfl) ?_
  refine L_rd C hS hl 1 (by decide) hk dL_law_1604 dL_law_1605 dL_law_1606 dL_law_1607 dL_law_1608 ?_
  refine L_two (As := [.int (gXs G (i + 1))]) C hR hS hl.1 kx ky hc hms ma_L_177 rfl ma_L_180 rfl (by decide) (by decide) (by decide) (by decide) rfl hr hB ?_ dL_law_1609 dL_law_1618 dL_law_1621 (by decide) k
  intro H1 locs1 cells1 slots1 v hS1 kk
  refine lv_aload_n hx hb dL_law_1612 rfl (lv_at hl 2 rfl) ?_
  refine L_rd C hS1 hl 1 (by decide) hk dL_law_1613 dL_law_1614 dL_law_1615 dL_law_1616 dL_law_1617 ?_
  exact kk
theorem case_clash (C : LX G p s m args meth c) (hJ : JA x y b0 s0 np na nm nr ne g mm h) (hm0 : 24 ≤ mm 0) (hR : Rel G h H) (hS : va_S (gFree G) s.heap H locs) (hl : lv_has ls 4 (LV G x y i)) (hk : i + 6 ≤ gL G) (hc : hn h = cells + gB G) (hms : hm h = slots) (hB : ∀ h2, JJ x y b0 s0 mm h2 → hn h2 ≤ gB G + 600000 ∧ hm h2 ≤ 7302250) (k : ∀ (h2 : Hp) (H2 : Heap) (locs2 : List Loc) (cells2 slots2 : Nat), JJ x y b0 s0 mm h2 → Rel G h2 H2 → va_S (gFree G) s.heap H2 locs2 → hn h2 = cells2 + gB G → hm h2 = slots2 → W p l e room_1 s m args below meth c H2 locs2 cells2 slots2 Qw (F0 m 1876 ls [])) : W p l e room_1 s m args below meth c H locs cells slots Qw (F0 m 1626 ls []) := by
  have hx := C.1.1
  have hb := C.1.2.1
  have kx : kd h x = 11 := by
    have q := hJ.2.1
    unfold JS at q
    exact q.1
  have ky : kd h y = 12 := by
    have q := hJ.1
    unfold JM at q
    exact q.1
  have hr := RunQ.mono (Q' := qI fun r h1 => RunQ l G 2 yX11_clash cX11_clash 4 (some .int) (va_rf (some y) :: [.int (gXs G (i + 1)), .int (gXs G (i + 2)), .int (bz (gXs G (i + 3)))]) h1 (qI fun r2 h2 => r = r2 ∧ JJ x y b0 s0 mm h2)) (r_X10_clash (l := l) (G := G) (some x) (gXs G (i + 1)) (gXs G (i + 2)) (bz (gXs G (i + 3))) (K_clash hJ (gXs G (i + 1)) (gXs G (i + 2)) (bz (gXs G (i + 3))) (by unfold bz; split <;> decide) (JJ x y b0 s0 mm) (fun _ q => q))) (fun r h1 ⟨v, e, w⟩ => ⟨v, e, r_X11_clash (some y) _ _ _ w⟩)
  refine lv_aload_n hx hb dL_law_1626 rfl (lv_at hl 1 rfl) ?_
  refine L_rd C hS hl 1 (by decide) hk dL_law_1627 dL_law_1628 dL_law_1629 dL_law_1630 dL_law_1631 ?_
  refine L_rd C hS hl 2 (by decide) hk dL_law_1632 dL_law_1633 dL_law_1634 dL_law_1635 dL_law_1636 ?_
  refine L_rdb C hS hl 3 (by decide) hk dL_law_1637 dL_law_1638 dL_law_1639 dL_law_1640 dL_law_1641 dL_law_1642 dL_law_1645 dL_law_1646 dL_law_1649 ?_
  refine L_two (As := [.int (gXs G (i + 1)), .int (gXs G (i + 2)), .int (bz (gXs G (i + 3)))]) C hR hS hl.1 kx ky hc hms ma_L_181 rfl ma_L_185 rfl (by decide) (by decide) (by decide) (by decide) rfl hr hB ?_ dL_law_1650 dL_law_1677 dL_law_1680 (by decide) k
  intro H1 locs1 cells1 slots1 v hS1 kk
  refine lv_aload_n hx hb dL_law_1653 rfl (lv_at hl 2 rfl) ?_
  refine L_rd C hS1 hl 1 (by decide) hk dL_law_1654 dL_law_1655 dL_law_1656 dL_law_1657 dL_law_1658 ?_
  refine L_rd C hS1 hl 2 (by decide) hk dL_law_1659 dL_law_1660 dL_law_1661 dL_law_1662 dL_law_1663 ?_
  refine L_rdb C hS1 hl 3 (by decide) hk dL_law_1664 dL_law_1665 dL_law_1666 dL_law_1667 dL_law_1668 dL_law_1669 dL_law_1672 dL_law_1673 dL_law_1676 ?_
  exact kk
theorem case_leave (C : LX G p s m args meth c) (hJ : JA x y b0 s0 np na nm nr ne g mm h) (hm0 : 24 ≤ mm 0) (hR : Rel G h H) (hS : va_S (gFree G) s.heap H locs) (hl : lv_has ls 4 (LV G x y i)) (hk : i + 6 ≤ gL G) (hc : hn h = cells + gB G) (hms : hm h = slots) (hB : ∀ h2, JJ x y b0 s0 mm h2 → hn h2 ≤ gB G + 600000 ∧ hm h2 ≤ 7302250) (k : ∀ (h2 : Hp) (H2 : Heap) (locs2 : List Loc) (cells2 slots2 : Nat), JJ x y b0 s0 mm h2 → Rel G h2 H2 → va_S (gFree G) s.heap H2 locs2 → hn h2 = cells2 + gB G → hm h2 = slots2 → W p l e room_1 s m args below meth c H2 locs2 cells2 slots2 Qw (F0 m 1876 ls [])) : W p l e room_1 s m args below meth c H locs cells slots Qw (F0 m 1685 ls []) := by
  have hx := C.1.1
  have hb := C.1.2.1
  have kx : kd h x = 11 := by
    have q := hJ.2.1
    unfold JS at q
    exact q.1
  have ky : kd h y = 12 := by
    have q := hJ.1
    unfold JM at q
    exact q.1
  have hr := RunQ.mono (Q' := qI fun r h1 => RunQ l G 3 yX11_leave cX11_leave 5 (some .int) (va_rf (some y) :: [.int (gXs G (i + 1))]) h1 (qI fun r2 h2 => r = r2 ∧ JJ x y b0 s0 mm h2)) (r_X10_leave (l := l) (G := G) (some x) (gXs G (i + 1)) (K_leave hJ (gXs G (i + 1)) (JJ x y b0 s0 mm) (fun _ q => q))) (fun r h1 ⟨v, e, w⟩ => ⟨v, e, r_X11_leave (some y) _ w⟩)
  refine lv_aload_n hx hb dL_law_1685 rfl (lv_at hl 1 rfl) ?_
  refine L_rd C hS hl 1 (by decide) hk dL_law_1686 dL_law_1687 dL_law_1688 dL_law_1689 dL_law_1690 ?_
  refine L_two (As := [.int (gXs G (i + 1))]) C hR hS hl.1 kx ky hc hms ma_L_186 rfl ma_L_189 rfl (by decide) (by decide) (by decide) (by decide) rfl hr hB ?_ dL_law_1691 dL_law_1700 dL_law_1703 (by decide) k
  intro H1 locs1 cells1 slots1 v hS1 kk
  refine lv_aload_n hx hb dL_law_1694 rfl (lv_at hl 2 rfl) ?_
  refine L_rd C hS1 hl 1 (by decide) hk dL_law_1695 dL_law_1696 dL_law_1697 dL_law_1698 dL_law_1699 ?_
  exact kk
theorem case_judge (C : LX G p s m args meth c) (hJ : JA x y b0 s0 np na nm nr ne g mm h) (hm0 : 24 ≤ mm 0) (hR : Rel G h H) (hS : va_S (gFree G) s.heap H locs) (hl : lv_has ls 4 (LV G x y i)) (hk : i + 6 ≤ gL G) (hc : hn h = cells + gB G) (hms : hm h = slots) (hB : ∀ h2, JJ x y b0 s0 mm h2 → hn h2 ≤ gB G + 600000 ∧ hm h2 ≤ 7302250) (k : ∀ (h2 : Hp) (H2 : Heap) (locs2 : List Loc) (cells2 slots2 : Nat), JJ x y b0 s0 mm h2 → Rel G h2 H2 → va_S (gFree G) s.heap H2 locs2 → hn h2 = cells2 + gB G → hm h2 = slots2 → W p l e room_1 s m args below meth c H2 locs2 cells2 slots2 Qw (F0 m 1876 ls [])) : W p l e room_1 s m args below meth c H locs cells slots Qw (F0 m 1708 ls []) := by
  have hx := C.1.1
  have hb := C.1.2.1
  have kx : kd h x = 11 := by
    have q := hJ.2.1
    unfold JS at q
    exact q.1
  have ky : kd h y = 12 := by
    have q := hJ.1
    unfold JM at q
    exact q.1
  have hr := RunQ.mono (Q' := qI fun r h1 => RunQ l G 3 yX11_judge cX11_judge 8 (some .int) (va_rf (some y) :: [.int (gXs G (i + 1)), .int (gXs G (i + 2))]) h1 (qI fun r2 h2 => r = r2 ∧ JJ x y b0 s0 mm h2)) (r_X10_judge (l := l) (G := G) (some x) (gXs G (i + 1)) (gXs G (i + 2)) (K_judge hJ (gXs G (i + 1)) (gXs G (i + 2)) (JJ x y b0 s0 mm) (fun _ q => q))) (fun r h1 ⟨v, e, w⟩ => ⟨v, e, r_X11_judge (some y) _ _ w⟩)
  refine lv_aload_n hx hb dL_law_1708 rfl (lv_at hl 1 rfl) ?_
  refine L_rd C hS hl 1 (by decide) hk dL_law_1709 dL_law_1710 dL_law_1711 dL_law_1712 dL_law_1713 ?_
  refine L_rd C hS hl 2 (by decide) hk dL_law_1714 dL_law_1715 dL_law_1716 dL_law_1717 dL_law_1718 ?_
  refine L_two (As := [.int (gXs G (i + 1)), .int (gXs G (i + 2))]) C hR hS hl.1 kx ky hc hms ma_L_190 rfl ma_L_193 rfl (by decide) (by decide) (by decide) (by decide) rfl hr hB ?_ dL_law_1719 dL_law_1733 dL_law_1736 (by decide) k
  intro H1 locs1 cells1 slots1 v hS1 kk
  refine lv_aload_n hx hb dL_law_1722 rfl (lv_at hl 2 rfl) ?_
  refine L_rd C hS1 hl 1 (by decide) hk dL_law_1723 dL_law_1724 dL_law_1725 dL_law_1726 dL_law_1727 ?_
  refine L_rd C hS1 hl 2 (by decide) hk dL_law_1728 dL_law_1729 dL_law_1730 dL_law_1731 dL_law_1732 ?_
  exact kk
theorem case_best (C : LX G p s m args meth c) (hJ : JA x y b0 s0 np na nm nr ne g mm h) (hm0 : 24 ≤ mm 0) (hR : Rel G h H) (hS : va_S (gFree G) s.heap H locs) (hl : lv_has ls 4 (LV G x y i)) (hk : i + 6 ≤ gL G) (hc : hn h = cells + gB G) (hms : hm h = slots) (hB : ∀ h2, JJ x y b0 s0 mm h2 → hn h2 ≤ gB G + 600000 ∧ hm h2 ≤ 7302250) (k : ∀ (h2 : Hp) (H2 : Heap) (locs2 : List Loc) (cells2 slots2 : Nat), JJ x y b0 s0 mm h2 → Rel G h2 H2 → va_S (gFree G) s.heap H2 locs2 → hn h2 = cells2 + gB G → hm h2 = slots2 → W p l e room_1 s m args below meth c H2 locs2 cells2 slots2 Qw (F0 m 1876 ls [])) : W p l e room_1 s m args below meth c H locs cells slots Qw (F0 m 1741 ls []) := by
  have hx := C.1.1
  have hb := C.1.2.1
  have kx : kd h x = 11 := by
    have q := hJ.2.1
    unfold JS at q
    exact q.1
  have ky : kd h y = 12 := by
    have q := hJ.1
    unfold JM at q
    exact q.1
  have hr := RunQ.mono (Q' := qI fun r h1 => RunQ l G 3 yX11_best cX11_best 11 (some .int) (va_rf (some y) :: [.int (gXs G (i + 1)), .int (gXs G (i + 2))]) h1 (qI fun r2 h2 => r = r2 ∧ JJ x y b0 s0 mm h2)) (r_X10_best (l := l) (G := G) (some x) (gXs G (i + 1)) (gXs G (i + 2)) (K_best hJ hm0 (gXs G (i + 1)) (gXs G (i + 2)) (JJ x y b0 s0 mm) (fun _ q => q))) (fun r h1 ⟨v, e, w⟩ => ⟨v, e, r_X11_best (some y) _ _ w⟩)
  refine lv_aload_n hx hb dL_law_1741 rfl (lv_at hl 1 rfl) ?_
  refine L_rd C hS hl 1 (by decide) hk dL_law_1742 dL_law_1743 dL_law_1744 dL_law_1745 dL_law_1746 ?_
  refine L_rd C hS hl 2 (by decide) hk dL_law_1747 dL_law_1748 dL_law_1749 dL_law_1750 dL_law_1751 ?_
  refine L_two (As := [.int (gXs G (i + 1)), .int (gXs G (i + 2))]) C hR hS hl.1 kx ky hc hms ma_L_194 rfl ma_L_197 rfl (by decide) (by decide) (by decide) (by decide) rfl hr hB ?_ dL_law_1752 dL_law_1766 dL_law_1769 (by decide) k
  intro H1 locs1 cells1 slots1 v hS1 kk
  refine lv_aload_n hx hb dL_law_1755 rfl (lv_at hl 2 rfl) ?_
  refine L_rd C hS1 hl 1 (by decide) hk dL_law_1756 dL_law_1757 dL_law_1758 dL_law_1759 dL_law_1760 ?_
  refine L_rd C hS1 hl 2 (by decide) hk dL_law_1761 dL_law_1762 dL_law_1763 dL_law_1764 dL_law_1765 ?_
  exact kk
theorem case_bestOf (C : LX G p s m args meth c) (hJ : JA x y b0 s0 np na nm nr ne g mm h) (hm0 : 24 ≤ mm 0) (hR : Rel G h H) (hS : va_S (gFree G) s.heap H locs) (hl : lv_has ls 4 (LV G x y i)) (hk : i + 6 ≤ gL G) (hc : hn h = cells + gB G) (hms : hm h = slots) (hB : ∀ h2, JJ x y b0 s0 mm h2 → hn h2 ≤ gB G + 600000 ∧ hm h2 ≤ 7302250) (k : ∀ (h2 : Hp) (H2 : Heap) (locs2 : List Loc) (cells2 slots2 : Nat), JJ x y b0 s0 mm h2 → Rel G h2 H2 → va_S (gFree G) s.heap H2 locs2 → hn h2 = cells2 + gB G → hm h2 = slots2 → W p l e room_1 s m args below meth c H2 locs2 cells2 slots2 Qw (F0 m 1876 ls [])) : W p l e room_1 s m args below meth c H locs cells slots Qw (F0 m 1774 ls []) := by
  have hx := C.1.1
  have hb := C.1.2.1
  have kx : kd h x = 11 := by
    have q := hJ.2.1
    unfold JS at q
    exact q.1
  have ky : kd h y = 12 := by
    have q := hJ.1
    unfold JM at q
    exact q.1
  have hr := RunQ.mono (Q' := qI fun r h1 => RunQ l G 1 yX11_bestOf cX11_bestOf 2 (some .int) (va_rf (some y) :: [.int (gXs G (i + 1))]) h1 (qI fun r2 h2 => r = r2 ∧ JJ x y b0 s0 mm h2)) (r_X10_bestOf (l := l) (G := G) (some x) (gXs G (i + 1)) (K_bestOf hJ (gXs G (i + 1)) (JJ x y b0 s0 mm) (fun _ q => q))) (fun r h1 ⟨v, e, w⟩ => ⟨v, e, r_X11_bestOf (some y) _ w⟩)
  refine lv_aload_n hx hb dL_law_1774 rfl (lv_at hl 1 rfl) ?_
  refine L_rd C hS hl 1 (by decide) hk dL_law_1775 dL_law_1776 dL_law_1777 dL_law_1778 dL_law_1779 ?_
  refine L_two (As := [.int (gXs G (i + 1))]) C hR hS hl.1 kx ky hc hms ma_L_198 rfl ma_L_201 rfl (by decide) (by decide) (by decide) (by decide) rfl hr hB ?_ dL_law_1780 dL_law_1789 dL_law_1792 (by decide) k
  intro H1 locs1 cells1 slots1 v hS1 kk
  refine lv_aload_n hx hb dL_law_1783 rfl (lv_at hl 2 rfl) ?_
  refine L_rd C hS1 hl 1 (by decide) hk dL_law_1784 dL_law_1785 dL_law_1786 dL_law_1787 dL_law_1788 ?_
  exact kk
theorem case_said (C : LX G p s m args meth c) (hJ : JA x y b0 s0 np na nm nr ne g mm h) (hm0 : 24 ≤ mm 0) (hR : Rel G h H) (hS : va_S (gFree G) s.heap H locs) (hl : lv_has ls 4 (LV G x y i)) (hk : i + 6 ≤ gL G) (hc : hn h = cells + gB G) (hms : hm h = slots) (hB : ∀ h2, JJ x y b0 s0 mm h2 → hn h2 ≤ gB G + 600000 ∧ hm h2 ≤ 7302250) (k : ∀ (h2 : Hp) (H2 : Heap) (locs2 : List Loc) (cells2 slots2 : Nat), JJ x y b0 s0 mm h2 → Rel G h2 H2 → va_S (gFree G) s.heap H2 locs2 → hn h2 = cells2 + gB G → hm h2 = slots2 → W p l e room_1 s m args below meth c H2 locs2 cells2 slots2 Qw (F0 m 1876 ls [])) : W p l e room_1 s m args below meth c H locs cells slots Qw (F0 m 1797 ls []) := by
  have hx := C.1.1
  have hb := C.1.2.1
  have kx : kd h x = 11 := by
    have q := hJ.2.1
    unfold JS at q
    exact q.1
  have ky : kd h y = 12 := by
    have q := hJ.1
    unfold JM at q
    exact q.1
  have hr := RunQ.mono (Q' := qI fun r h1 => RunQ l G 3 yX11_said cX11_said 5 (some .int) (va_rf (some y) :: [.int (gXs G (i + 1))]) h1 (qI fun r2 h2 => r = r2 ∧ JJ x y b0 s0 mm h2)) (r_X10_said (l := l) (G := G) (some x) (gXs G (i + 1)) (K_said hJ (gXs G (i + 1)) (JJ x y b0 s0 mm) (fun _ q => q))) (fun r h1 ⟨v, e, w⟩ => ⟨v, e, r_X11_said (some y) _ w⟩)
  refine lv_aload_n hx hb dL_law_1797 rfl (lv_at hl 1 rfl) ?_
  refine L_rd C hS hl 1 (by decide) hk dL_law_1798 dL_law_1799 dL_law_1800 dL_law_1801 dL_law_1802 ?_
  refine L_two (As := [.int (gXs G (i + 1))]) C hR hS hl.1 kx ky hc hms ma_L_202 rfl ma_L_205 rfl (by decide) (by decide) (by decide) (by decide) rfl hr hB ?_ dL_law_1803 dL_law_1812 dL_law_1815 (by decide) k
  intro H1 locs1 cells1 slots1 v hS1 kk
  refine lv_aload_n hx hb dL_law_1806 rfl (lv_at hl 2 rfl) ?_
  refine L_rd C hS1 hl 1 (by decide) hk dL_law_1807 dL_law_1808 dL_law_1809 dL_law_1810 dL_law_1811 ?_
  exact kk
theorem case_other (C : LX G p s m args meth c) (hJ : JA x y b0 s0 np na nm nr ne g mm h) (hm0 : 24 ≤ mm 0) (hR : Rel G h H) (hS : va_S (gFree G) s.heap H locs) (hl : lv_has ls 4 (LV G x y i)) (hk : i + 6 ≤ gL G) (hc : hn h = cells + gB G) (hms : hm h = slots) (hB : ∀ h2, JJ x y b0 s0 mm h2 → hn h2 ≤ gB G + 600000 ∧ hm h2 ≤ 7302250) (k : ∀ (h2 : Hp) (H2 : Heap) (locs2 : List Loc) (cells2 slots2 : Nat), JJ x y b0 s0 mm h2 → Rel G h2 H2 → va_S (gFree G) s.heap H2 locs2 → hn h2 = cells2 + gB G → hm h2 = slots2 → W p l e room_1 s m args below meth c H2 locs2 cells2 slots2 Qw (F0 m 1876 ls [])) : W p l e room_1 s m args below meth c H locs cells slots Qw (F0 m 1820 ls []) := by
  have hx := C.1.1
  have hb := C.1.2.1
  have kx : kd h x = 11 := by
    have q := hJ.2.1
    unfold JS at q
    exact q.1
  have ky : kd h y = 12 := by
    have q := hJ.1
    unfold JM at q
    exact q.1
  have hr := RunQ.mono (Q' := qI fun r h1 => RunQ l G 4 yX11_other cX11_other 5 (some .int) (va_rf (some y) :: [.int (gXs G (i + 1)), .int (gXs G (i + 2))]) h1 (qI fun r2 h2 => r = r2 ∧ JJ x y b0 s0 mm h2)) (r_X10_other (l := l) (G := G) (some x) (gXs G (i + 1)) (gXs G (i + 2)) (K_other hJ (gXs G (i + 1)) (gXs G (i + 2)) (JJ x y b0 s0 mm) (fun _ q => q))) (fun r h1 ⟨v, e, w⟩ => ⟨v, e, r_X11_other (some y) _ _ w⟩)
  refine lv_aload_n hx hb dL_law_1820 rfl (lv_at hl 1 rfl) ?_
  refine L_rd C hS hl 1 (by decide) hk dL_law_1821 dL_law_1822 dL_law_1823 dL_law_1824 dL_law_1825 ?_
  refine L_rd C hS hl 2 (by decide) hk dL_law_1826 dL_law_1827 dL_law_1828 dL_law_1829 dL_law_1830 ?_
  refine L_two (As := [.int (gXs G (i + 1)), .int (gXs G (i + 2))]) C hR hS hl.1 kx ky hc hms ma_L_206 rfl ma_L_209 rfl (by decide) (by decide) (by decide) (by decide) rfl hr hB ?_ dL_law_1831 dL_law_1845 dL_law_1848 (by decide) k
  intro H1 locs1 cells1 slots1 v hS1 kk
  refine lv_aload_n hx hb dL_law_1834 rfl (lv_at hl 2 rfl) ?_
  refine L_rd C hS1 hl 1 (by decide) hk dL_law_1835 dL_law_1836 dL_law_1837 dL_law_1838 dL_law_1839 ?_
  refine L_rd C hS1 hl 2 (by decide) hk dL_law_1840 dL_law_1841 dL_law_1842 dL_law_1843 dL_law_1844 ?_
  exact kk
theorem case_status (C : LX G p s m args meth c) (hJ : JA x y b0 s0 np na nm nr ne g mm h) (hm0 : 24 ≤ mm 0) (hR : Rel G h H) (hS : va_S (gFree G) s.heap H locs) (hl : lv_has ls 4 (LV G x y i)) (hk : i + 6 ≤ gL G) (hc : hn h = cells + gB G) (hms : hm h = slots) (hB : ∀ h2, JJ x y b0 s0 mm h2 → hn h2 ≤ gB G + 600000 ∧ hm h2 ≤ 7302250) (k : ∀ (h2 : Hp) (H2 : Heap) (locs2 : List Loc) (cells2 slots2 : Nat), JJ x y b0 s0 mm h2 → Rel G h2 H2 → va_S (gFree G) s.heap H2 locs2 → hn h2 = cells2 + gB G → hm h2 = slots2 → W p l e room_1 s m args below meth c H2 locs2 cells2 slots2 Qw (F0 m 1876 ls [])) : W p l e room_1 s m args below meth c H locs cells slots Qw (F0 m 1853 ls []) := by
  have hx := C.1.1
  have hb := C.1.2.1
  have kx : kd h x = 11 := by
    have q := hJ.2.1
    unfold JS at q
    exact q.1
  have ky : kd h y = 12 := by
    have q := hJ.1
    unfold JM at q
    exact q.1
  have hr := RunQ.mono (Q' := qI fun r h1 => RunQ l G 1 yX11_status cX11_status 4 (some .int) (va_rf (some y) :: [.int (gXs G (i + 1))]) h1 (qI fun r2 h2 => r = r2 ∧ JJ x y b0 s0 mm h2)) (r_X10_status (l := l) (G := G) (some x) (gXs G (i + 1)) (K_status hJ (gXs G (i + 1)) (JJ x y b0 s0 mm) (fun _ q => q))) (fun r h1 ⟨v, e, w⟩ => ⟨v, e, r_X11_status (some y) _ w⟩)
  refine lv_aload_n hx hb dL_law_1853 rfl (lv_at hl 1 rfl) ?_
  refine L_rd C hS hl 1 (by decide) hk dL_law_1854 dL_law_1855 dL_law_1856 dL_law_1857 dL_law_1858 ?_
  refine L_two (As := [.int (gXs G (i + 1))]) C hR hS hl.1 kx ky hc hms ma_L_210 rfl ma_L_213 rfl (by decide) (by decide) (by decide) (by decide) rfl hr hB ?_ dL_law_1859 dL_law_1868 dL_law_1871 (by decide) k
  intro H1 locs1 cells1 slots1 v hS1 kk
  refine lv_aload_n hx hb dL_law_1862 rfl (lv_at hl 2 rfl) ?_
  refine L_rd C hS1 hl 1 (by decide) hk dL_law_1863 dL_law_1864 dL_law_1865 dL_law_1866 dL_law_1867 ?_
  exact kk
end CASES
