section Lc
variable {p : Program} {l : Launch} {e : Env} {s : State} {m : MethodId} {args : Array Value} {below : List Frame} {meth : Method} {c : Code} {H : Heap} {locs : List Loc} {cells slots i b L : Nat} {Q : State → Prop} {ls : Array Slot} {A : Nat → Prop} {D : va_G} {ca : Nat → ClassId} {a b0 z : Nat → Nat} {d : Nat → Nat → Nat} {W7 W8 : va_W} {code0 : Int32} {g : Nat → Int64} {out : Nat} {xs : Nat → Int32}
set_option maxRecDepth 100000 in
theorem lc_addThrough (hst : l.stackTraces = false) (C : lwK p s m args c D ca A b L xs) (hi : i + 7 ≤ L) (hI : Inv ca a b0 d z W7 W8 code0) (hP : va_P D vwCl (([(out, .inl (ca 1, 1, .inr (.inl g)))] ++ W7) ++ W8) H) (hD : va_D A (([(out, .inl (ca 1, 1, .inr (.inl g)))] ++ W7) ++ W8)) (hS : va_S A s.heap H locs) (hl : lv_has ls 8 [(4, .int (iN (i : Int))), (3, .ref out), (2, .ref (z 0)), (1, .ref (a 0)), (0, .ref b)]) (hc : cells + 4 ≤ room_1.cells ∧ slots + 24 ≤ room_1.slots) (kk : lwN p l e s m args below meth c D ca A b i a b0 d z out Q cells slots) : W p l e room_1 s m args below meth c H locs cells slots Q (F0 m 292 ls []) := by
  obtain ⟨r, V7, V8, bb, cc, hI2, hM7, hM8, hag⟩ := st_addThrough l hst D hI (ag xs i 1) (ag xs i 2) (ag xs i 3) (ag xs i 4) (ag xs i 5) (ag xs i 6)
  have he7 := inv_x hI
  obtain ⟨fs, he8⟩ := inv_m hI
  have C0 := C
  obtain ⟨hx, hb, hml, hown, hts, hK, hA, hZ, hC, hX, hbl, hbA, hL⟩ := C
  refine lv_aload_n hx hb dL_law_292 rfl (lv_at hl 3 rfl) ?_
  refine lw_ld (v := 1) C0 hi (by simp) hS (lv_at hl 4 rfl) (lv_at hl 0 rfl) dL_law_293 dL_law_294 dL_law_296 (by decide) dL_law_297 dL_law_298 ?_
  refine lw_ld (v := 2) C0 hi (by simp) hS (lv_at hl 4 rfl) (lv_at hl 0 rfl) dL_law_299 dL_law_300 dL_law_302 (by decide) dL_law_303 dL_law_304 ?_
  refine lw_ld (v := 3) C0 hi (by simp) hS (lv_at hl 4 rfl) (lv_at hl 0 rfl) dL_law_305 dL_law_306 dL_law_308 (by decide) dL_law_309 dL_law_310 ?_
  refine lw_ld (v := 4) C0 hi (by simp) hS (lv_at hl 4 rfl) (lv_at hl 0 rfl) dL_law_311 dL_law_312 dL_law_314 (by decide) dL_law_315 dL_law_316 ?_
  refine lw_ld (v := 5) C0 hi (by simp) hS (lv_at hl 4 rfl) (lv_at hl 0 rfl) dL_law_317 dL_law_318 dL_law_320 (by decide) dL_law_321 dL_law_322 ?_
  refine lw_ld6 C0 hi hS (lv_at hl 4 rfl) (lv_at hl 0 rfl) dL_law_323 dL_law_324 dL_law_326 dL_law_328 dL_law_329 ?_
  refine lv_aload_n hx hb dL_law_330 rfl (lv_at hl 1 rfl) ?_
  refine clSZ (As := [.ref (a 0), .int (ag xs i 1), .int (ag xs i 2), .int (ag xs i 3), .int (ag xs i 4), .int (ag xs i 5), .int (ag xs i 6), .ref out]) (rest := []) (st' := [.int (kcI (fun e => if e = 1 then 1 else if e = 2 then 2 else 0) r)]) hx hb hml hown hts gL_law_L_addThrough rfl 8 (by decide +kernel) ⟨Nat.le_of_ble_eq_true rfl, Nat.le_of_ble_eq_true rfl⟩ (wr_addThrough l hst D ca _ _ _ _ _ _ g H.size he7 hM7 (fun n hn => kn2 (agI_n hag hn))) hP hD hS hA hK hZ hC rfl hl.1 rfl (Nat.le_of_ble_eq_true rfl) ⟨by omega, by omega⟩ dL_law_331 rfl (fun H locs hP hD hS => ?_)
  refine W.widen (k := cells + 4) (n := slots + 24) (by omega) (by omega) ?_
  refine lv_istore (lv' := [(5, .int (kcI (fun e => if e = 1 then 1 else if e = 2 then 2 else 0) r)), (4, .int (iN (i : Int))), (3, .ref out), (2, .ref (z 0)), (1, .ref (a 0)), (0, .ref b)]) hx hb dL_law_334 hl (by decide) rfl (fun ls hl => ?_)
  refine lv_aload_n hx hb dL_law_336 rfl (lv_at hl 3 rfl) ?_
  refine lw_ld (v := 1) C0 hi (by simp) hS (lv_at hl 5 rfl) (lv_at hl 1 rfl) dL_law_337 dL_law_338 dL_law_340 (by decide) dL_law_341 dL_law_342 ?_
  refine lw_ld (v := 2) C0 hi (by simp) hS (lv_at hl 5 rfl) (lv_at hl 1 rfl) dL_law_343 dL_law_344 dL_law_346 (by decide) dL_law_347 dL_law_348 ?_
  refine lw_ld (v := 3) C0 hi (by simp) hS (lv_at hl 5 rfl) (lv_at hl 1 rfl) dL_law_349 dL_law_350 dL_law_352 (by decide) dL_law_353 dL_law_354 ?_
  refine lw_ld (v := 4) C0 hi (by simp) hS (lv_at hl 5 rfl) (lv_at hl 1 rfl) dL_law_355 dL_law_356 dL_law_358 (by decide) dL_law_359 dL_law_360 ?_
  refine lw_ld (v := 5) C0 hi (by simp) hS (lv_at hl 5 rfl) (lv_at hl 1 rfl) dL_law_361 dL_law_362 dL_law_364 (by decide) dL_law_365 dL_law_366 ?_
  refine lw_ld6 C0 hi hS (lv_at hl 5 rfl) (lv_at hl 1 rfl) dL_law_367 dL_law_368 dL_law_370 dL_law_372 dL_law_373 ?_
  refine clVWb (As := [.int (ag xs i 1), .int (ag xs i 2), .int (ag xs i 3), .int (ag xs i 4), .int (ag xs i 5), .int (ag xs i 6)]) (rest := []) (st' := [.int bb]) hx hb hml hown hts gL_law_X8_addThrough rfl 6 (by decide +kernel) ⟨Nat.le_of_ble_eq_true rfl, Nat.le_of_ble_eq_true rfl⟩ (hM8 H.size) hP.flip hD.flip hS hA hK 0 7 he8 rfl rfl rfl hl.1 rfl (Nat.le_of_ble_eq_true rfl) hc dL_law_374 rfl (fun H locs hP hD hS => ?_)
  refine lv_istore (lv' := [(6, .int bb), (5, .int (kcI (fun e => if e = 1 then 1 else if e = 2 then 2 else 0) r)), (4, .int (iN (i : Int))), (3, .ref out), (2, .ref (z 0)), (1, .ref (a 0)), (0, .ref b)]) hx hb dL_law_377 hl (by decide) rfl (fun ls hl => ?_)
  exact lw_tlI C0 (show tlI 379 1959 from ⟨dL_law_379, dL_law_380, dL_law_383, dL_law_385, dL_law_390, dL_law_392, dL_law_395, dL_law_396, dL_law_397, dL_law_398, dL_law_400, dL_law_401, dL_law_402, dL_law_407, by decide⟩) hI2 (agI_code hag) (agI_out g hag) hc hP.flip hD.flip hS hl (fun H locs hP hD hS => kk H locs ls V7 V8 cc _ hI2 hP hD hS (lv_sub hl [2, 3, 4, 5, 6] rfl))
set_option maxRecDepth 100000 in
theorem lc_end (hst : l.stackTraces = false) (C : lwK p s m args c D ca A b L xs) (hi : i + 7 ≤ L) (hI : Inv ca a b0 d z W7 W8 code0) (hP : va_P D vwCl (([(out, .inl (ca 1, 1, .inr (.inl g)))] ++ W7) ++ W8) H) (hD : va_D A (([(out, .inl (ca 1, 1, .inr (.inl g)))] ++ W7) ++ W8)) (hS : va_S A s.heap H locs) (hl : lv_has ls 8 [(4, .int (iN (i : Int))), (3, .ref out), (2, .ref (z 0)), (1, .ref (a 0)), (0, .ref b)]) (hc : cells + 4 ≤ room_1.cells ∧ slots + 24 ≤ room_1.slots) (kk : lwN p l e s m args below meth c D ca A b i a b0 d z out Q cells slots) : W p l e room_1 s m args below meth c H locs cells slots Q (F0 m 410 ls []) := by
  obtain ⟨r, V7, V8, bb, cc, hI2, hM7, hM8, hag⟩ := st_end l hst D hI (ag xs i 1)
  have he7 := inv_x hI
  obtain ⟨fs, he8⟩ := inv_m hI
  have C0 := C
  obtain ⟨hx, hb, hml, hown, hts, hK, hA, hZ, hC, hX, hbl, hbA, hL⟩ := C
  refine lv_aload_n hx hb dL_law_410 rfl (lv_at hl 3 rfl) ?_
  refine lw_ld (v := 1) C0 hi (by simp) hS (lv_at hl 4 rfl) (lv_at hl 0 rfl) dL_law_411 dL_law_412 dL_law_414 (by decide) dL_law_415 dL_law_416 ?_
  refine lv_aload_n hx hb dL_law_417 rfl (lv_at hl 1 rfl) ?_
  refine clSZ (As := [.ref (a 0), .int (ag xs i 1), .ref out]) (rest := []) (st' := [.int (kcI (fun e => if e = 3 then 1 else if e = 2 then 2 else 0) r)]) hx hb hml hown hts gL_law_L_end rfl 3 (by decide +kernel) ⟨Nat.le_of_ble_eq_true rfl, Nat.le_of_ble_eq_true rfl⟩ (wr_end l hst D ca _ g H.size he7 hM7 (fun n hn => kn2 (agI_n hag hn))) hP hD hS hA hK hZ hC rfl hl.1 rfl (Nat.le_of_ble_eq_true rfl) ⟨by omega, by omega⟩ dL_law_418 rfl (fun H locs hP hD hS => ?_)
  refine W.widen (k := cells + 4) (n := slots + 24) (by omega) (by omega) ?_
  refine lv_istore (lv' := [(5, .int (kcI (fun e => if e = 3 then 1 else if e = 2 then 2 else 0) r)), (4, .int (iN (i : Int))), (3, .ref out), (2, .ref (z 0)), (1, .ref (a 0)), (0, .ref b)]) hx hb dL_law_421 hl (by decide) rfl (fun ls hl => ?_)
  refine lv_aload_n hx hb dL_law_423 rfl (lv_at hl 3 rfl) ?_
  refine lw_ld (v := 1) C0 hi (by simp) hS (lv_at hl 5 rfl) (lv_at hl 1 rfl) dL_law_424 dL_law_425 dL_law_427 (by decide) dL_law_428 dL_law_429 ?_
  refine clVWb (As := [.int (ag xs i 1)]) (rest := []) (st' := [.int bb]) hx hb hml hown hts gL_law_X8_end rfl 1 (by decide +kernel) ⟨Nat.le_of_ble_eq_true rfl, Nat.le_of_ble_eq_true rfl⟩ (hM8 H.size) hP.flip hD.flip hS hA hK 0 7 he8 rfl rfl rfl hl.1 rfl (Nat.le_of_ble_eq_true rfl) hc dL_law_430 rfl (fun H locs hP hD hS => ?_)
  refine lv_istore (lv' := [(6, .int bb), (5, .int (kcI (fun e => if e = 3 then 1 else if e = 2 then 2 else 0) r)), (4, .int (iN (i : Int))), (3, .ref out), (2, .ref (z 0)), (1, .ref (a 0)), (0, .ref b)]) hx hb dL_law_433 hl (by decide) rfl (fun ls hl => ?_)
  exact lw_tlI C0 (show tlI 435 1903 from ⟨dL_law_435, dL_law_436, dL_law_439, dL_law_441, dL_law_446, dL_law_448, dL_law_451, dL_law_452, dL_law_453, dL_law_454, dL_law_456, dL_law_457, dL_law_458, dL_law_463, by decide⟩) hI2 (agI_code hag) (agI_out g hag) hc hP.flip hD.flip hS hl (fun H locs hP hD hS => kk H locs ls V7 V8 cc _ hI2 hP hD hS (lv_sub hl [2, 3, 4, 5, 6] rfl))
set_option maxRecDepth 100000 in
theorem lc_lift (hst : l.stackTraces = false) (C : lwK p s m args c D ca A b L xs) (hi : i + 7 ≤ L) (hI : Inv ca a b0 d z W7 W8 code0) (hP : va_P D vwCl (([(out, .inl (ca 1, 1, .inr (.inl g)))] ++ W7) ++ W8) H) (hD : va_D A (([(out, .inl (ca 1, 1, .inr (.inl g)))] ++ W7) ++ W8)) (hS : va_S A s.heap H locs) (hl : lv_has ls 8 [(4, .int (iN (i : Int))), (3, .ref out), (2, .ref (z 0)), (1, .ref (a 0)), (0, .ref b)]) (hc : cells + 4 ≤ room_1.cells ∧ slots + 24 ≤ room_1.slots) (kk : lwN p l e s m args below meth c D ca A b i a b0 d z out Q cells slots) : W p l e room_1 s m args below meth c H locs cells slots Q (F0 m 466 ls []) := by
  obtain ⟨r, V7, V8, bb, cc, hI2, hM7, hM8, hag⟩ := st_lift l hst D hI (ag xs i 1) (ag xs i 2)
  have he7 := inv_x hI
  obtain ⟨fs, he8⟩ := inv_m hI
  have C0 := C
  obtain ⟨hx, hb, hml, hown, hts, hK, hA, hZ, hC, hX, hbl, hbA, hL⟩ := C
  refine lv_aload_n hx hb dL_law_466 rfl (lv_at hl 3 rfl) ?_
  refine lw_ld (v := 1) C0 hi (by simp) hS (lv_at hl 4 rfl) (lv_at hl 0 rfl) dL_law_467 dL_law_468 dL_law_470 (by decide) dL_law_471 dL_law_472 ?_
  refine lw_ld (v := 2) C0 hi (by simp) hS (lv_at hl 4 rfl) (lv_at hl 0 rfl) dL_law_473 dL_law_474 dL_law_476 (by decide) dL_law_477 dL_law_478 ?_
  refine lv_aload_n hx hb dL_law_479 rfl (lv_at hl 1 rfl) ?_
  refine clSZ (As := [.ref (a 0), .int (ag xs i 1), .int (ag xs i 2), .ref out]) (rest := []) (st' := [.int (kcI (fun e => if e = 3 then 1 else if e = 1 then 2 else if e = 2 then 3 else 0) r)]) hx hb hml hown hts gL_law_L_lift rfl 4 (by decide +kernel) ⟨Nat.le_of_ble_eq_true rfl, Nat.le_of_ble_eq_true rfl⟩ (wr_lift l hst D ca _ _ g H.size he7 hM7 (fun n hn => kn3 (agI_n hag hn))) hP hD hS hA hK hZ hC rfl hl.1 rfl (Nat.le_of_ble_eq_true rfl) ⟨by omega, by omega⟩ dL_law_480 rfl (fun H locs hP hD hS => ?_)
  refine W.widen (k := cells + 4) (n := slots + 24) (by omega) (by omega) ?_
  refine lv_istore (lv' := [(5, .int (kcI (fun e => if e = 3 then 1 else if e = 1 then 2 else if e = 2 then 3 else 0) r)), (4, .int (iN (i : Int))), (3, .ref out), (2, .ref (z 0)), (1, .ref (a 0)), (0, .ref b)]) hx hb dL_law_483 hl (by decide) rfl (fun ls hl => ?_)
  refine lv_aload_n hx hb dL_law_485 rfl (lv_at hl 3 rfl) ?_
  refine lw_ld (v := 1) C0 hi (by simp) hS (lv_at hl 5 rfl) (lv_at hl 1 rfl) dL_law_486 dL_law_487 dL_law_489 (by decide) dL_law_490 dL_law_491 ?_
  refine lw_ld (v := 2) C0 hi (by simp) hS (lv_at hl 5 rfl) (lv_at hl 1 rfl) dL_law_492 dL_law_493 dL_law_495 (by decide) dL_law_496 dL_law_497 ?_
  refine clVWb (As := [.int (ag xs i 1), .int (ag xs i 2)]) (rest := []) (st' := [.int bb]) hx hb hml hown hts gL_law_X8_lift rfl 2 (by decide +kernel) ⟨Nat.le_of_ble_eq_true rfl, Nat.le_of_ble_eq_true rfl⟩ (hM8 H.size) hP.flip hD.flip hS hA hK 0 7 he8 rfl rfl rfl hl.1 rfl (Nat.le_of_ble_eq_true rfl) hc dL_law_498 rfl (fun H locs hP hD hS => ?_)
  refine lv_istore (lv' := [(6, .int bb), (5, .int (kcI (fun e => if e = 3 then 1 else if e = 1 then 2 else if e = 2 then 3 else 0) r)), (4, .int (iN (i : Int))), (3, .ref out), (2, .ref (z 0)), (1, .ref (a 0)), (0, .ref b)]) hx hb dL_law_501 hl (by decide) rfl (fun ls hl => ?_)
  exact lw_tlI C0 (show tlI 503 1835 from ⟨dL_law_503, dL_law_504, dL_law_507, dL_law_509, dL_law_514, dL_law_516, dL_law_519, dL_law_520, dL_law_521, dL_law_522, dL_law_524, dL_law_525, dL_law_526, dL_law_531, by decide⟩) hI2 (agI_code hag) (agI_out g hag) hc hP.flip hD.flip hS hl (fun H locs hP hD hS => kk H locs ls V7 V8 cc _ hI2 hP hD hS (lv_sub hl [2, 3, 4, 5, 6] rfl))
set_option maxRecDepth 100000 in
theorem lc_pass (hst : l.stackTraces = false) (C : lwK p s m args c D ca A b L xs) (hi : i + 7 ≤ L) (hI : Inv ca a b0 d z W7 W8 code0) (hP : va_P D vwCl (([(out, .inl (ca 1, 1, .inr (.inl g)))] ++ W7) ++ W8) H) (hD : va_D A (([(out, .inl (ca 1, 1, .inr (.inl g)))] ++ W7) ++ W8)) (hS : va_S A s.heap H locs) (hl : lv_has ls 8 [(4, .int (iN (i : Int))), (3, .ref out), (2, .ref (z 0)), (1, .ref (a 0)), (0, .ref b)]) (hc : cells + 4 ≤ room_1.cells ∧ slots + 24 ≤ room_1.slots) (kk : lwN p l e s m args below meth c D ca A b i a b0 d z out Q cells slots) : W p l e room_1 s m args below meth c H locs cells slots Q (F0 m 534 ls []) := by
  obtain ⟨r, V7, V8, bb, cc, hI2, hM7, hM8, hag⟩ := st_pass l hst D hI (ag xs i 1)
  have he7 := inv_x hI
  obtain ⟨fs, he8⟩ := inv_m hI
  have C0 := C
  obtain ⟨hx, hb, hml, hown, hts, hK, hA, hZ, hC, hX, hbl, hbA, hL⟩ := C
  refine lv_aload_n hx hb dL_law_534 rfl (lv_at hl 3 rfl) ?_
  refine lw_ld (v := 1) C0 hi (by simp) hS (lv_at hl 4 rfl) (lv_at hl 0 rfl) dL_law_535 dL_law_536 dL_law_538 (by decide) dL_law_539 dL_law_540 ?_
  refine lv_aload_n hx hb dL_law_541 rfl (lv_at hl 1 rfl) ?_
  refine clSZ (As := [.ref (a 0), .int (ag xs i 1), .ref out]) (rest := []) (st' := [.int (kcI (fun e => if e = 1 then 1 else if e = 2 then 2 else 0) r)]) hx hb hml hown hts gL_law_L_pass rfl 3 (by decide +kernel) ⟨Nat.le_of_ble_eq_true rfl, Nat.le_of_ble_eq_true rfl⟩ (wr_pass l hst D ca _ g H.size he7 hM7 (fun n hn => kn2 (agI_n hag hn))) hP hD hS hA hK hZ hC rfl hl.1 rfl (Nat.le_of_ble_eq_true rfl) ⟨by omega, by omega⟩ dL_law_542 rfl (fun H locs hP hD hS => ?_)
  refine W.widen (k := cells + 4) (n := slots + 24) (by omega) (by omega) ?_
  refine lv_istore (lv' := [(5, .int (kcI (fun e => if e = 1 then 1 else if e = 2 then 2 else 0) r)), (4, .int (iN (i : Int))), (3, .ref out), (2, .ref (z 0)), (1, .ref (a 0)), (0, .ref b)]) hx hb dL_law_545 hl (by decide) rfl (fun ls hl => ?_)
  refine lv_aload_n hx hb dL_law_547 rfl (lv_at hl 3 rfl) ?_
  refine lw_ld (v := 1) C0 hi (by simp) hS (lv_at hl 5 rfl) (lv_at hl 1 rfl) dL_law_548 dL_law_549 dL_law_551 (by decide) dL_law_552 dL_law_553 ?_
  refine clVWb (As := [.int (ag xs i 1)]) (rest := []) (st' := [.int bb]) hx hb hml hown hts gL_law_X8_pass rfl 1 (by decide +kernel) ⟨Nat.le_of_ble_eq_true rfl, Nat.le_of_ble_eq_true rfl⟩ (hM8 H.size) hP.flip hD.flip hS hA hK 0 7 he8 rfl rfl rfl hl.1 rfl (Nat.le_of_ble_eq_true rfl) hc dL_law_554 rfl (fun H locs hP hD hS => ?_)
  refine lv_istore (lv' := [(6, .int bb), (5, .int (kcI (fun e => if e = 1 then 1 else if e = 2 then 2 else 0) r)), (4, .int (iN (i : Int))), (3, .ref out), (2, .ref (z 0)), (1, .ref (a 0)), (0, .ref b)]) hx hb dL_law_557 hl (by decide) rfl (fun ls hl => ?_)
  exact lw_tlI C0 (show tlI 559 1779 from ⟨dL_law_559, dL_law_560, dL_law_563, dL_law_565, dL_law_570, dL_law_572, dL_law_575, dL_law_576, dL_law_577, dL_law_578, dL_law_580, dL_law_581, dL_law_582, dL_law_587, by decide⟩) hI2 (agI_code hag) (agI_out g hag) hc hP.flip hD.flip hS hl (fun H locs hP hD hS => kk H locs ls V7 V8 cc _ hI2 hP hD hS (lv_sub hl [2, 3, 4, 5, 6] rfl))
set_option maxRecDepth 100000 in
theorem lc_segments (hst : l.stackTraces = false) (C : lwK p s m args c D ca A b L xs) (hi : i + 7 ≤ L) (hI : Inv ca a b0 d z W7 W8 code0) (hP : va_P D vwCl (([(out, .inl (ca 1, 1, .inr (.inl g)))] ++ W7) ++ W8) H) (hD : va_D A (([(out, .inl (ca 1, 1, .inr (.inl g)))] ++ W7) ++ W8)) (hS : va_S A s.heap H locs) (hl : lv_has ls 8 [(4, .int (iN (i : Int))), (3, .ref out), (2, .ref (z 0)), (1, .ref (a 0)), (0, .ref b)]) (hc : cells + 4 ≤ room_1.cells ∧ slots + 24 ≤ room_1.slots) (kk : lwN p l e s m args below meth c D ca A b i a b0 d z out Q cells slots) : W p l e room_1 s m args below meth c H locs cells slots Q (F0 m 603 ls []) := by
  obtain ⟨r, V7, V8, bb, cc, hI2, hM7, hM8, hag⟩ := st_segments l hst D hI
  have he7 := inv_x hI
  obtain ⟨fs, he8⟩ := inv_m hI
  have C0 := C
  obtain ⟨hx, hb, hml, hown, hts, hK, hA, hZ, hC, hX, hbl, hbA, hL⟩ := C
  refine lv_aload_n hx hb dL_law_603 rfl (lv_at hl 3 rfl) ?_
  refine clVWb (As := []) (rest := []) (st' := [.int r]) hx hb hml hown hts gL_law_X7_segments rfl 0 (by decide +kernel) ⟨Nat.le_of_ble_eq_true rfl, Nat.le_of_ble_eq_true rfl⟩ (hM7 H.size) (rotP hP) (rotD hD) hS hA hK 0 6 he7 rfl rfl rfl hl.1 rfl (Nat.le_of_ble_eq_true rfl) ⟨by omega, by omega⟩ dL_law_604 rfl (fun H locs hP hD hS => ?_)
  refine W.widen (k := cells + 4) (n := slots + 24) (by omega) (by omega) ?_
  have hP := torP hP
  have hD := torD hD
  refine lv_aload_n hx hb dL_law_607 rfl (lv_at hl 2 rfl) ?_
  refine clVWb (As := []) (rest := [.int r]) (st' := [.int bb, .int r]) hx hb hml hown hts gL_law_X8_segments rfl 0 (by decide +kernel) ⟨Nat.le_of_ble_eq_true rfl, Nat.le_of_ble_eq_true rfl⟩ (hM8 H.size) hP.flip hD.flip hS hA hK 0 7 he8 rfl rfl rfl hl.1 rfl (Nat.le_of_ble_eq_true rfl) hc dL_law_608 rfl (fun H locs hP hD hS => ?_)
  refine lv_icmp_eq (tgt := 2366) hx hb dL_law_611 (by decide) (fun _ => ?_) (fun h => absurd hag h)
  exact kk H locs ls V7 V8 cc g hI2 hP.flip hD.flip hS hl
set_option maxRecDepth 100000 in
theorem lc_segment (hst : l.stackTraces = false) (C : lwK p s m args c D ca A b L xs) (hi : i + 7 ≤ L) (hI : Inv ca a b0 d z W7 W8 code0) (hP : va_P D vwCl (([(out, .inl (ca 1, 1, .inr (.inl g)))] ++ W7) ++ W8) H) (hD : va_D A (([(out, .inl (ca 1, 1, .inr (.inl g)))] ++ W7) ++ W8)) (hS : va_S A s.heap H locs) (hl : lv_has ls 8 [(4, .int (iN (i : Int))), (3, .ref out), (2, .ref (z 0)), (1, .ref (a 0)), (0, .ref b)]) (hc : cells + 4 ≤ room_1.cells ∧ slots + 24 ≤ room_1.slots) (kk : lwN p l e s m args below meth c D ca A b i a b0 d z out Q cells slots) : W p l e room_1 s m args below meth c H locs cells slots Q (F0 m 616 ls []) := by
  obtain ⟨r, V7, V8, bb, cc, hI2, hM7, hM8, hag⟩ := st_segment l hst D hI (ag xs i 1) (ag xs i 2)
  have he7 := inv_x hI
  obtain ⟨fs, he8⟩ := inv_m hI
  have C0 := C
  obtain ⟨hx, hb, hml, hown, hts, hK, hA, hZ, hC, hX, hbl, hbA, hL⟩ := C
  refine lv_aload_n hx hb dL_law_616 rfl (lv_at hl 3 rfl) ?_
  refine lw_ld (v := 1) C0 hi (by simp) hS (lv_at hl 4 rfl) (lv_at hl 0 rfl) dL_law_617 dL_law_618 dL_law_620 (by decide) dL_law_621 dL_law_622 ?_
  refine lw_ld (v := 2) C0 hi (by simp) hS (lv_at hl 4 rfl) (lv_at hl 0 rfl) dL_law_623 dL_law_624 dL_law_626 (by decide) dL_law_627 dL_law_628 ?_
  refine lv_aload_n hx hb dL_law_629 rfl (lv_at hl 1 rfl) ?_
  refine clSZ (As := [.ref (a 0), .int (ag xs i 1), .int (ag xs i 2), .ref out]) (rest := []) (st' := [.int (kcI (fun e => if e = 3 then 1 else if e = 1 then 2 else 0) r)]) hx hb hml hown hts gL_law_L_segment rfl 4 (by decide +kernel) ⟨Nat.le_of_ble_eq_true rfl, Nat.le_of_ble_eq_true rfl⟩ (wr_segment l hst D ca _ _ g H.size he7 hM7 (fun n hn => kn2 (agI_n hag hn))) hP hD hS hA hK hZ hC rfl hl.1 rfl (Nat.le_of_ble_eq_true rfl) ⟨by omega, by omega⟩ dL_law_630 rfl (fun H locs hP hD hS => ?_)
  refine W.widen (k := cells + 4) (n := slots + 24) (by omega) (by omega) ?_
  refine lv_istore (lv' := [(5, .int (kcI (fun e => if e = 3 then 1 else if e = 1 then 2 else 0) r)), (4, .int (iN (i : Int))), (3, .ref out), (2, .ref (z 0)), (1, .ref (a 0)), (0, .ref b)]) hx hb dL_law_633 hl (by decide) rfl (fun ls hl => ?_)
  refine lv_aload_n hx hb dL_law_635 rfl (lv_at hl 3 rfl) ?_
  refine lw_ld (v := 1) C0 hi (by simp) hS (lv_at hl 5 rfl) (lv_at hl 1 rfl) dL_law_636 dL_law_637 dL_law_639 (by decide) dL_law_640 dL_law_641 ?_
  refine lw_ld (v := 2) C0 hi (by simp) hS (lv_at hl 5 rfl) (lv_at hl 1 rfl) dL_law_642 dL_law_643 dL_law_645 (by decide) dL_law_646 dL_law_647 ?_
  refine clVWb (As := [.int (ag xs i 1), .int (ag xs i 2)]) (rest := []) (st' := [.int bb]) hx hb hml hown hts gL_law_X8_segment rfl 2 (by decide +kernel) ⟨Nat.le_of_ble_eq_true rfl, Nat.le_of_ble_eq_true rfl⟩ (hM8 H.size) hP.flip hD.flip hS hA hK 0 7 he8 rfl rfl rfl hl.1 rfl (Nat.le_of_ble_eq_true rfl) hc dL_law_648 rfl (fun H locs hP hD hS => ?_)
  refine lv_istore (lv' := [(6, .int bb), (5, .int (kcI (fun e => if e = 3 then 1 else if e = 1 then 2 else 0) r)), (4, .int (iN (i : Int))), (3, .ref out), (2, .ref (z 0)), (1, .ref (a 0)), (0, .ref b)]) hx hb dL_law_651 hl (by decide) rfl (fun ls hl => ?_)
  exact lw_tlI C0 (show tlI 653 1685 from ⟨dL_law_653, dL_law_654, dL_law_657, dL_law_659, dL_law_664, dL_law_666, dL_law_669, dL_law_670, dL_law_671, dL_law_672, dL_law_674, dL_law_675, dL_law_676, dL_law_681, by decide⟩) hI2 (agI_code hag) (agI_out g hag) hc hP.flip hD.flip hS hl (fun H locs hP hD hS => kk H locs ls V7 V8 cc _ hI2 hP hD hS (lv_sub hl [2, 3, 4, 5, 6] rfl))
end Lc
