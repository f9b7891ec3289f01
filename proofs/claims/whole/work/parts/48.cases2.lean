section CASES
variable {p : Program} {e : Env} {s : State} {m : MethodId} {below : List Frame} {meth : Method} {c : Code} {b0 L : Nat} {xs : Nat → Int32} {D : va_G} {H : Heap} {locs : List Loc} {ls : Array Slot} {cells slots : Nat} {M : mM} {x mo i : Nat}
set_option maxHeartbeats 4000000 in
set_option maxRecDepth 100000 in
theorem law_has (l : Launch) (C0 : LC D p s m meth c b0 L xs) (hi : i + 6 ≤ L) (hc : cells + 85 ≤ 600000) (hsl : slots + 443 ≤ 7302250) (hI : InvE M x mo) (hG : mG D s.heap.size M s H) (hS : va_S (mF s.heap.size) s.heap H locs) (hl : lv_has ls 4 [(3, .int (iI i)), (2, .ref mo), (1, .ref x), (0, .ref b0)]) (kk : ∀ (M2 : mM) (H2 : Heap) (locs2 : List Loc), InvE M2 x mo → mG D s.heap.size M2 s H2 → va_S (mF s.heap.size) s.heap H2 locs2 → W p l e room_1 s m #[Value.ref b0] below meth c H2 locs2 (cells + 85) (slots + 443) (lw_Z below #[Value.ref b0] s) (F0 m 672 ls [])) : W p l e room_1 s m #[Value.ref b0] below meth c H locs cells slots (lw_Z below #[Value.ref b0] s) (F0 m 351 ls []) := by
  obtain ⟨⟨hx, hb, hr, hml, hown, hts0, hX, hbl, hlk, hgv⟩, K, hL⟩ := C0
  have hts : ∀ w ∈ wsL_law, w.before #[Value.ref b0] s = true := fun w h => hts0 w (wsL_law_in w h)
  have hown : s.vm.findClass RL = some m.cls := hown
  obtain ⟨ad, tg, am, nt, ng, sp, nn, jj, vt, vw, vr, G, sa, sx, sy, ra, gz, va, ac, rfl, rfl, hI⟩ := hI
  refine lv_aload_n hx hb dL_law_351 rfl (lv_at hl 2 rfl) ?_
  refine law_ld hx hb hX hbl hL hS hl 1 (by omega) dL_law_352 dL_law_353 dL_law_354 dL_law_355 dL_law_356 ?_
  refine law_ld hx hb hX hbl hL hS hl 2 (by omega) dL_law_357 dL_law_358 dL_law_359 dL_law_360 dL_law_361 ?_
  refine m_calli (m_runV (a := ad 8 0 0) (As := [.int (iI (zx xs (i + 1))), .int (iI (zx xs (i + 2)))]) (rest := []) ⟨hx, hb, hml, hown, hts⟩ (c_X4_has l D s.heap.size _ ad nt ng sp nn jj vt vw vr G hI.1 (zx xs (i + 1)) (zx xs (i + 2)) zx_rg zx_rg) (cwV 2 hts gL_law_X4_has rfl rfl rfl (by decide +kernel) ⟨Nat.le_of_ble_eq_true rfl, Nat.le_of_ble_eq_true rfl⟩) K hG hI.1.1 rfl rfl rfl hl.1 rfl (Nat.le_of_ble_eq_true rfl) dL_law_362 ⟨by show _ ≤ 600000; omega, by show _ ≤ 7302250; omega⟩) hS (fun r1 M1 H locs hw1 hG hS => ?_)
  have hO1 := mid_pure hI hw1
  refine lv_aload_n hx hb dL_law_365 rfl (lv_at hl 1 rfl) ?_
  refine law_ld hx hb hX hbl hL hS hl 1 (by omega) dL_law_366 dL_law_367 dL_law_368 dL_law_369 dL_law_370 ?_
  refine law_ld hx hb hX hbl hL hS hl 2 (by omega) dL_law_371 dL_law_372 dL_law_373 dL_law_374 dL_law_375 ?_
  refine m_calli (m_runV (a := am 0) (As := [.int (iI (zx xs (i + 1))), .int (iI (zx xs (i + 2)))]) (rest := [.int r1]) ⟨hx, hb, hml, hown, hts⟩ (c_X5_has l D s.heap.size _ am nt ng sp nn jj sa sx sy ra gz va ac hO1 (zx xs (i + 1)) (zx xs (i + 2)) zx_rg zx_rg) (cwV 2 hts gL_law_X5_has rfl rfl rfl (by decide +kernel) ⟨Nat.le_of_ble_eq_true rfl, Nat.le_of_ble_eq_true rfl⟩) K hG hO1.1 rfl rfl rfl hl.1 rfl (Nat.le_of_ble_eq_true rfl) dL_law_376 ⟨by show _ ≤ 600000; omega, by show _ ≤ 7302250; omega⟩) hS (fun r2 M2 H locs hw2 hG hS => ?_)
  have hf := fin_pure hI hw1 hw2 (ans_has hI (zx xs (i + 1)) (zx xs (i + 2)))
  refine lv_icmp_eq (tgt := 672) hx hb dL_law_379 (by decide) (fun _ => ?_) (fun h => absurd hf.1 h)
  exact W.widen (by omega) (by omega) (kk M2 H locs hf.2 hG hS)
set_option maxHeartbeats 4000000 in
set_option maxRecDepth 100000 in
theorem law_state (l : Launch) (C0 : LC D p s m meth c b0 L xs) (hi : i + 6 ≤ L) (hc : cells + 85 ≤ 600000) (hsl : slots + 443 ≤ 7302250) (hI : InvE M x mo) (hG : mG D s.heap.size M s H) (hS : va_S (mF s.heap.size) s.heap H locs) (hl : lv_has ls 4 [(3, .int (iI i)), (2, .ref mo), (1, .ref x), (0, .ref b0)]) (kk : ∀ (M2 : mM) (H2 : Heap) (locs2 : List Loc), InvE M2 x mo → mG D s.heap.size M2 s H2 → va_S (mF s.heap.size) s.heap H2 locs2 → W p l e room_1 s m #[Value.ref b0] below meth c H2 locs2 (cells + 85) (slots + 443) (lw_Z below #[Value.ref b0] s) (F0 m 672 ls [])) : W p l e room_1 s m #[Value.ref b0] below meth c H locs cells slots (lw_Z below #[Value.ref b0] s) (F0 m 384 ls []) := by
  obtain ⟨⟨hx, hb, hr, hml, hown, hts0, hX, hbl, hlk, hgv⟩, K, hL⟩ := C0
  have hts : ∀ w ∈ wsL_law, w.before #[Value.ref b0] s = true := fun w h => hts0 w (wsL_law_in w h)
  have hown : s.vm.findClass RL = some m.cls := hown
  obtain ⟨ad, tg, am, nt, ng, sp, nn, jj, vt, vw, vr, G, sa, sx, sy, ra, gz, va, ac, rfl, rfl, hI⟩ := hI
  refine lv_aload_n hx hb dL_law_384 rfl (lv_at hl 2 rfl) ?_
  refine law_ld hx hb hX hbl hL hS hl 1 (by omega) dL_law_385 dL_law_386 dL_law_387 dL_law_388 dL_law_389 ?_
  refine law_ld hx hb hX hbl hL hS hl 2 (by omega) dL_law_390 dL_law_391 dL_law_392 dL_law_393 dL_law_394 ?_
  refine law_ld hx hb hX hbl hL hS hl 3 (by omega) dL_law_395 dL_law_396 dL_law_397 dL_law_398 dL_law_399 ?_
  refine m_calli (m_runV (a := ad 8 0 0) (As := [.int (iI (zx xs (i + 1))), .int (iI (zx xs (i + 2))), .int (iI (zx xs (i + 3)))]) (rest := []) ⟨hx, hb, hml, hown, hts⟩ (c_X4_state l D s.heap.size _ ad nt ng sp nn jj vt vw vr G hI.1 (zx xs (i + 1)) (zx xs (i + 2)) (zx xs (i + 3)) zx_rg zx_rg zx_rg) (cwV 3 hts gL_law_X4_state rfl rfl rfl (by decide +kernel) ⟨Nat.le_of_ble_eq_true rfl, Nat.le_of_ble_eq_true rfl⟩) K hG hI.1.1 rfl rfl rfl hl.1 rfl (Nat.le_of_ble_eq_true rfl) dL_law_400 ⟨by show _ ≤ 600000; omega, by show _ ≤ 7302250; omega⟩) hS (fun r1 M1 H locs hw1 hG hS => ?_)
  have hO1 := mid_pure hI hw1
  refine lv_aload_n hx hb dL_law_403 rfl (lv_at hl 1 rfl) ?_
  refine law_ld hx hb hX hbl hL hS hl 1 (by omega) dL_law_404 dL_law_405 dL_law_406 dL_law_407 dL_law_408 ?_
  refine law_ld hx hb hX hbl hL hS hl 2 (by omega) dL_law_409 dL_law_410 dL_law_411 dL_law_412 dL_law_413 ?_
  refine law_ld hx hb hX hbl hL hS hl 3 (by omega) dL_law_414 dL_law_415 dL_law_416 dL_law_417 dL_law_418 ?_
  refine m_calli (m_runV (a := am 0) (As := [.int (iI (zx xs (i + 1))), .int (iI (zx xs (i + 2))), .int (iI (zx xs (i + 3)))]) (rest := [.int r1]) ⟨hx, hb, hml, hown, hts⟩ (c_X5_state l D s.heap.size _ am nt ng sp nn jj sa sx sy ra gz va ac hO1 hI.2.2.2.2.1 (iv_box hI) (zx xs (i + 1)) (zx xs (i + 2)) (zx xs (i + 3)) zx_rg zx_rg zx_rg) (cwV 3 hts gL_law_X5_state rfl rfl rfl (by decide +kernel) ⟨Nat.le_of_ble_eq_true rfl, Nat.le_of_ble_eq_true rfl⟩) K hG hO1.1 rfl rfl rfl hl.1 rfl (Nat.le_of_ble_eq_true rfl) dL_law_419 ⟨by show _ ≤ 600000; omega, by show _ ≤ 7302250; omega⟩) hS (fun r2 M2 H locs hw2 hG hS => ?_)
  have hf := fin_pure hI hw1 hw2 (ans_state hI (zx xs (i + 1)) (zx xs (i + 2)) (zx xs (i + 3)))
  refine lv_icmp_eq (tgt := 672) hx hb dL_law_422 (by decide) (fun _ => ?_) (fun h => absurd hf.1 h)
  exact W.widen (by omega) (by omega) (kk M2 H locs hf.2 hG hS)
set_option maxHeartbeats 4000000 in
set_option maxRecDepth 100000 in
theorem law_entered (l : Launch) (C0 : LC D p s m meth c b0 L xs) (hi : i + 6 ≤ L) (hc : cells + 85 ≤ 600000) (hsl : slots + 443 ≤ 7302250) (hI : InvE M x mo) (hG : mG D s.heap.size M s H) (hS : va_S (mF s.heap.size) s.heap H locs) (hl : lv_has ls 4 [(3, .int (iI i)), (2, .ref mo), (1, .ref x), (0, .ref b0)]) (kk : ∀ (M2 : mM) (H2 : Heap) (locs2 : List Loc), InvE M2 x mo → mG D s.heap.size M2 s H2 → va_S (mF s.heap.size) s.heap H2 locs2 → W p l e room_1 s m #[Value.ref b0] below meth c H2 locs2 (cells + 85) (slots + 443) (lw_Z below #[Value.ref b0] s) (F0 m 672 ls [])) : W p l e room_1 s m #[Value.ref b0] below meth c H locs cells slots (lw_Z below #[Value.ref b0] s) (F0 m 427 ls []) := by
  obtain ⟨⟨hx, hb, hr, hml, hown, hts0, hX, hbl, hlk, hgv⟩, K, hL⟩ := C0
  have hts : ∀ w ∈ wsL_law, w.before #[Value.ref b0] s = true := fun w h => hts0 w (wsL_law_in w h)
  have hown : s.vm.findClass RL = some m.cls := hown
  obtain ⟨ad, tg, am, nt, ng, sp, nn, jj, vt, vw, vr, G, sa, sx, sy, ra, gz, va, ac, rfl, rfl, hI⟩ := hI
  refine lv_aload_n hx hb dL_law_427 rfl (lv_at hl 2 rfl) ?_
  refine law_ld hx hb hX hbl hL hS hl 1 (by omega) dL_law_428 dL_law_429 dL_law_430 dL_law_431 dL_law_432 ?_
  refine law_ld hx hb hX hbl hL hS hl 2 (by omega) dL_law_433 dL_law_434 dL_law_435 dL_law_436 dL_law_437 ?_
  refine law_ld hx hb hX hbl hL hS hl 3 (by omega) dL_law_438 dL_law_439 dL_law_440 dL_law_441 dL_law_442 ?_
  refine law_ld hx hb hX hbl hL hS hl 4 (by omega) dL_law_443 dL_law_444 dL_law_445 dL_law_446 dL_law_447 ?_
  refine m_calli (m_runV (a := ad 8 0 0) (As := [.int (iI (zx xs (i + 1))), .int (iI (zx xs (i + 2))), .int (iI (zx xs (i + 3))), .int (iI (zx xs (i + 4)))]) (rest := []) ⟨hx, hb, hml, hown, hts⟩ (c_X4_entered l D s.heap.size _ ad nt ng sp nn jj vt vw vr G hI.1 tg hI.2.1 (zx xs (i + 1)) (zx xs (i + 2)) (zx xs (i + 3)) (zx xs (i + 4)) zx_rg zx_rg zx_rg zx_rg) (cwV 4 hts gL_law_X4_entered rfl rfl rfl (by decide +kernel) ⟨Nat.le_of_ble_eq_true rfl, Nat.le_of_ble_eq_true rfl⟩) K hG hI.1.1 rfl rfl rfl hl.1 rfl (Nat.le_of_ble_eq_true rfl) dL_law_448 ⟨by show _ ≤ 600000; omega, by show _ ≤ 7302250; omega⟩) hS (fun r1 M1 H locs hw1 hG hS => ?_)
  have hO1 := mid_entered hI (zx xs (i + 1)) (zx xs (i + 2)) (zx xs (i + 3)) (zx xs (i + 4)) hw1
  refine lv_aload_n hx hb dL_law_451 rfl (lv_at hl 1 rfl) ?_
  refine law_ld hx hb hX hbl hL hS hl 1 (by omega) dL_law_452 dL_law_453 dL_law_454 dL_law_455 dL_law_456 ?_
  refine law_ld hx hb hX hbl hL hS hl 2 (by omega) dL_law_457 dL_law_458 dL_law_459 dL_law_460 dL_law_461 ?_
  refine law_ld hx hb hX hbl hL hS hl 3 (by omega) dL_law_462 dL_law_463 dL_law_464 dL_law_465 dL_law_466 ?_
  refine law_ld hx hb hX hbl hL hS hl 4 (by omega) dL_law_467 dL_law_468 dL_law_469 dL_law_470 dL_law_471 ?_
  refine m_calli (m_runV (a := am 0) (As := [.int (iI (zx xs (i + 1))), .int (iI (zx xs (i + 2))), .int (iI (zx xs (i + 3))), .int (iI (zx xs (i + 4)))]) (rest := [.int r1]) ⟨hx, hb, hml, hown, hts⟩ (c_X5_entered l D s.heap.size _ am nt ng sp nn jj sa sx sy ra gz va ac hO1 hI.2.2.2.2.1 (zx xs (i + 1)) (zx xs (i + 2)) (zx xs (i + 3)) (zx xs (i + 4)) zx_rg zx_rg zx_rg zx_rg) (cwV 4 hts gL_law_X5_entered rfl rfl rfl (by decide +kernel) ⟨Nat.le_of_ble_eq_true rfl, Nat.le_of_ble_eq_true rfl⟩) K hG hO1.1 rfl rfl rfl hl.1 rfl (Nat.le_of_ble_eq_true rfl) dL_law_472 ⟨by show _ ≤ 600000; omega, by show _ ≤ 7302250; omega⟩) hS (fun r2 M2 H locs hw2 hG hS => ?_)
  have hf := fin_entered hI (zx xs (i + 1)) (zx xs (i + 2)) (zx xs (i + 3)) (zx xs (i + 4)) hw1 hw2
  refine lv_icmp_eq (tgt := 672) hx hb dL_law_475 (by decide) (fun _ => ?_) (fun h => absurd hf.1 h)
  exact W.widen (by omega) (by omega) (kk M2 H locs hf.2 hG hS)
set_option maxHeartbeats 4000000 in
set_option maxRecDepth 100000 in
theorem law_stay (l : Launch) (C0 : LC D p s m meth c b0 L xs) (hi : i + 6 ≤ L) (hc : cells + 85 ≤ 600000) (hsl : slots + 443 ≤ 7302250) (hI : InvE M x mo) (hG : mG D s.heap.size M s H) (hS : va_S (mF s.heap.size) s.heap H locs) (hl : lv_has ls 4 [(3, .int (iI i)), (2, .ref mo), (1, .ref x), (0, .ref b0)]) (kk : ∀ (M2 : mM) (H2 : Heap) (locs2 : List Loc), InvE M2 x mo → mG D s.heap.size M2 s H2 → va_S (mF s.heap.size) s.heap H2 locs2 → W p l e room_1 s m #[Value.ref b0] below meth c H2 locs2 (cells + 85) (slots + 443) (lw_Z below #[Value.ref b0] s) (F0 m 672 ls [])) : W p l e room_1 s m #[Value.ref b0] below meth c H locs cells slots (lw_Z below #[Value.ref b0] s) (F0 m 480 ls []) := by
  obtain ⟨⟨hx, hb, hr, hml, hown, hts0, hX, hbl, hlk, hgv⟩, K, hL⟩ := C0
  have hts : ∀ w ∈ wsL_law, w.before #[Value.ref b0] s = true := fun w h => hts0 w (wsL_law_in w h)
  have hown : s.vm.findClass RL = some m.cls := hown
  obtain ⟨ad, tg, am, nt, ng, sp, nn, jj, vt, vw, vr, G, sa, sx, sy, ra, gz, va, ac, rfl, rfl, hI⟩ := hI
  refine lv_aload_n hx hb dL_law_480 rfl (lv_at hl 2 rfl) ?_
  refine law_ld hx hb hX hbl hL hS hl 1 (by omega) dL_law_481 dL_law_482 dL_law_483 dL_law_484 dL_law_485 ?_
  refine law_ld hx hb hX hbl hL hS hl 2 (by omega) dL_law_486 dL_law_487 dL_law_488 dL_law_489 dL_law_490 ?_
  refine law_ld hx hb hX hbl hL hS hl 3 (by omega) dL_law_491 dL_law_492 dL_law_493 dL_law_494 dL_law_495 ?_
  refine law_ld hx hb hX hbl hL hS hl 4 (by omega) dL_law_496 dL_law_497 dL_law_498 dL_law_499 dL_law_500 ?_
  refine law_ld hx hb hX hbl hL hS hl 5 (by omega) dL_law_501 dL_law_502 dL_law_503 dL_law_504 dL_law_505 ?_
  refine m_calli (m_runV (a := ad 8 0 0) (As := [.int (iI (zx xs (i + 1))), .int (iI (zx xs (i + 2))), .int (iI (zx xs (i + 3))), .int (iI (zx xs (i + 4))), .int (iI (zx xs (i + 5)))]) (rest := []) ⟨hx, hb, hml, hown, hts⟩ (c_X4_stay l D s.heap.size _ ad nt ng sp nn jj vt vw vr G hI.1 tg hI.2.1 (zx xs (i + 1)) (zx xs (i + 2)) (zx xs (i + 3)) (zx xs (i + 4)) (zx xs (i + 5)) zx_rg zx_rg zx_rg zx_rg zx_rg) (cwV 5 hts gL_law_X4_stay rfl rfl rfl (by decide +kernel) ⟨Nat.le_of_ble_eq_true rfl, Nat.le_of_ble_eq_true rfl⟩) K hG hI.1.1 rfl rfl rfl hl.1 rfl (Nat.le_of_ble_eq_true rfl) dL_law_506 ⟨by show _ ≤ 600000; omega, by show _ ≤ 7302250; omega⟩) hS (fun r1 M1 H locs hw1 hG hS => ?_)
  have hO1 := mid_stay hI (zx xs (i + 1)) (zx xs (i + 2)) (zx xs (i + 3)) (zx xs (i + 4)) (zx xs (i + 5)) hw1
  refine lv_aload_n hx hb dL_law_509 rfl (lv_at hl 1 rfl) ?_
  refine law_ld hx hb hX hbl hL hS hl 1 (by omega) dL_law_510 dL_law_511 dL_law_512 dL_law_513 dL_law_514 ?_
  refine law_ld hx hb hX hbl hL hS hl 2 (by omega) dL_law_515 dL_law_516 dL_law_517 dL_law_518 dL_law_519 ?_
  refine law_ld hx hb hX hbl hL hS hl 3 (by omega) dL_law_520 dL_law_521 dL_law_522 dL_law_523 dL_law_524 ?_
  refine law_ld hx hb hX hbl hL hS hl 4 (by omega) dL_law_525 dL_law_526 dL_law_527 dL_law_528 dL_law_529 ?_
  refine law_ld hx hb hX hbl hL hS hl 5 (by omega) dL_law_530 dL_law_531 dL_law_532 dL_law_533 dL_law_534 ?_
  refine m_calli (m_runV (a := am 0) (As := [.int (iI (zx xs (i + 1))), .int (iI (zx xs (i + 2))), .int (iI (zx xs (i + 3))), .int (iI (zx xs (i + 4))), .int (iI (zx xs (i + 5)))]) (rest := [.int r1]) ⟨hx, hb, hml, hown, hts⟩ (c_X5_stay l D s.heap.size _ am nt ng sp nn jj sa sx sy ra gz va ac hO1 hI.2.2.2.2.1 (zx xs (i + 1)) (zx xs (i + 2)) (zx xs (i + 3)) (zx xs (i + 4)) (zx xs (i + 5)) zx_rg zx_rg zx_rg zx_rg zx_rg) (cwV 5 hts gL_law_X5_stay rfl rfl rfl (by decide +kernel) ⟨Nat.le_of_ble_eq_true rfl, Nat.le_of_ble_eq_true rfl⟩) K hG hO1.1 rfl rfl rfl hl.1 rfl (Nat.le_of_ble_eq_true rfl) dL_law_535 ⟨by show _ ≤ 600000; omega, by show _ ≤ 7302250; omega⟩) hS (fun r2 M2 H locs hw2 hG hS => ?_)
  have hf := fin_stay hI (zx xs (i + 1)) (zx xs (i + 2)) (zx xs (i + 3)) (zx xs (i + 4)) (zx xs (i + 5)) hw1 hw2
  refine lv_icmp_eq (tgt := 672) hx hb dL_law_538 (by decide) (fun _ => ?_) (fun h => absurd hf.1 h)
  exact W.widen (by omega) (by omega) (kk M2 H locs hf.2 hG hS)
set_option maxHeartbeats 4000000 in
set_option maxRecDepth 100000 in
theorem law_look (l : Launch) (C0 : LC D p s m meth c b0 L xs) (hi : i + 6 ≤ L) (hc : cells + 85 ≤ 600000) (hsl : slots + 443 ≤ 7302250) (hI : InvE M x mo) (hG : mG D s.heap.size M s H) (hS : va_S (mF s.heap.size) s.heap H locs) (hl : lv_has ls 4 [(3, .int (iI i)), (2, .ref mo), (1, .ref x), (0, .ref b0)]) (kk : ∀ (M2 : mM) (H2 : Heap) (locs2 : List Loc), InvE M2 x mo → mG D s.heap.size M2 s H2 → va_S (mF s.heap.size) s.heap H2 locs2 → W p l e room_1 s m #[Value.ref b0] below meth c H2 locs2 (cells + 85) (slots + 443) (lw_Z below #[Value.ref b0] s) (F0 m 672 ls [])) : W p l e room_1 s m #[Value.ref b0] below meth c H locs cells slots (lw_Z below #[Value.ref b0] s) (F0 m 543 ls []) := by
  obtain ⟨⟨hx, hb, hr, hml, hown, hts0, hX, hbl, hlk, hgv⟩, K, hL⟩ := C0
  have hts : ∀ w ∈ wsL_law, w.before #[Value.ref b0] s = true := fun w h => hts0 w (wsL_law_in w h)
  have hown : s.vm.findClass RL = some m.cls := hown
  obtain ⟨ad, tg, am, nt, ng, sp, nn, jj, vt, vw, vr, G, sa, sx, sy, ra, gz, va, ac, rfl, rfl, hI⟩ := hI
  refine lv_aload_n hx hb dL_law_543 rfl (lv_at hl 2 rfl) ?_
  refine law_ld hx hb hX hbl hL hS hl 1 (by omega) dL_law_544 dL_law_545 dL_law_546 dL_law_547 dL_law_548 ?_
  refine law_ld hx hb hX hbl hL hS hl 2 (by omega) dL_law_549 dL_law_550 dL_law_551 dL_law_552 dL_law_553 ?_
  refine law_ld hx hb hX hbl hL hS hl 3 (by omega) dL_law_554 dL_law_555 dL_law_556 dL_law_557 dL_law_558 ?_
  refine law_ld hx hb hX hbl hL hS hl 4 (by omega) dL_law_559 dL_law_560 dL_law_561 dL_law_562 dL_law_563 ?_
  refine m_calli (m_runV (a := ad 8 0 0) (As := [.int (iI (zx xs (i + 1))), .int (iI (zx xs (i + 2))), .int (iI (zx xs (i + 3))), .int (iI (zx xs (i + 4)))]) (rest := []) ⟨hx, hb, hml, hown, hts⟩ (c_X4_look l D s.heap.size _ ad nt ng sp nn jj vt vw vr G hI.1 (zx xs (i + 1)) (zx xs (i + 2)) (zx xs (i + 3)) (zx xs (i + 4)) zx_rg zx_rg zx_rg zx_rg) (cwV 4 hts gL_law_X4_look rfl rfl rfl (by decide +kernel) ⟨Nat.le_of_ble_eq_true rfl, Nat.le_of_ble_eq_true rfl⟩) K hG hI.1.1 rfl rfl rfl hl.1 rfl (Nat.le_of_ble_eq_true rfl) dL_law_564 ⟨by show _ ≤ 600000; omega, by show _ ≤ 7302250; omega⟩) hS (fun r1 M1 H locs hw1 hG hS => ?_)
  have hO1 := mid_pure hI hw1
  refine lv_aload_n hx hb dL_law_567 rfl (lv_at hl 1 rfl) ?_
  refine law_ld hx hb hX hbl hL hS hl 1 (by omega) dL_law_568 dL_law_569 dL_law_570 dL_law_571 dL_law_572 ?_
  refine law_ld hx hb hX hbl hL hS hl 2 (by omega) dL_law_573 dL_law_574 dL_law_575 dL_law_576 dL_law_577 ?_
  refine law_ld hx hb hX hbl hL hS hl 3 (by omega) dL_law_578 dL_law_579 dL_law_580 dL_law_581 dL_law_582 ?_
  refine law_ld hx hb hX hbl hL hS hl 4 (by omega) dL_law_583 dL_law_584 dL_law_585 dL_law_586 dL_law_587 ?_
  refine m_calli (m_runV (a := am 0) (As := [.int (iI (zx xs (i + 1))), .int (iI (zx xs (i + 2))), .int (iI (zx xs (i + 3))), .int (iI (zx xs (i + 4)))]) (rest := [.int r1]) ⟨hx, hb, hml, hown, hts⟩ (c_X5_look l D s.heap.size _ am nt ng sp nn jj sa sx sy ra gz va ac hO1 hI.2.2.2.2.1 (iv_box hI) (zx xs (i + 1)) (zx xs (i + 2)) (zx xs (i + 3)) (zx xs (i + 4)) zx_rg zx_rg zx_rg zx_rg) (cwV 4 hts gL_law_X5_look rfl rfl rfl (by decide +kernel) ⟨Nat.le_of_ble_eq_true rfl, Nat.le_of_ble_eq_true rfl⟩) K hG hO1.1 rfl rfl rfl hl.1 rfl (Nat.le_of_ble_eq_true rfl) dL_law_588 ⟨by show _ ≤ 600000; omega, by show _ ≤ 7302250; omega⟩) hS (fun r2 M2 H locs hw2 hG hS => ?_)
  have hf := fin_pure hI hw1 hw2 (ans_look hI (zx xs (i + 1)) (zx xs (i + 2)) (zx xs (i + 3)) (zx xs (i + 4)))
  refine lv_icmp_eq (tgt := 672) hx hb dL_law_591 (by decide) (fun _ => ?_) (fun h => absurd hf.1 h)
  exact W.widen (by omega) (by omega) (kk M2 H locs hf.2 hG hS)
set_option maxHeartbeats 4000000 in
set_option maxRecDepth 100000 in
theorem law_apart (l : Launch) (C0 : LC D p s m meth c b0 L xs) (hi : i + 6 ≤ L) (hc : cells + 85 ≤ 600000) (hsl : slots + 443 ≤ 7302250) (hI : InvE M x mo) (hG : mG D s.heap.size M s H) (hS : va_S (mF s.heap.size) s.heap H locs) (hl : lv_has ls 4 [(3, .int (iI i)), (2, .ref mo), (1, .ref x), (0, .ref b0)]) (kk : ∀ (M2 : mM) (H2 : Heap) (locs2 : List Loc), InvE M2 x mo → mG D s.heap.size M2 s H2 → va_S (mF s.heap.size) s.heap H2 locs2 → W p l e room_1 s m #[Value.ref b0] below meth c H2 locs2 (cells + 85) (slots + 443) (lw_Z below #[Value.ref b0] s) (F0 m 672 ls [])) : W p l e room_1 s m #[Value.ref b0] below meth c H locs cells slots (lw_Z below #[Value.ref b0] s) (F0 m 596 ls []) := by
  obtain ⟨⟨hx, hb, hr, hml, hown, hts0, hX, hbl, hlk, hgv⟩, K, hL⟩ := C0
  have hts : ∀ w ∈ wsL_law, w.before #[Value.ref b0] s = true := fun w h => hts0 w (wsL_law_in w h)
  have hown : s.vm.findClass RL = some m.cls := hown
  obtain ⟨ad, tg, am, nt, ng, sp, nn, jj, vt, vw, vr, G, sa, sx, sy, ra, gz, va, ac, rfl, rfl, hI⟩ := hI
  refine lv_aload_n hx hb dL_law_596 rfl (lv_at hl 2 rfl) ?_
  refine law_ld hx hb hX hbl hL hS hl 1 (by omega) dL_law_597 dL_law_598 dL_law_599 dL_law_600 dL_law_601 ?_
  refine law_ld hx hb hX hbl hL hS hl 2 (by omega) dL_law_602 dL_law_603 dL_law_604 dL_law_605 dL_law_606 ?_
  refine law_ld hx hb hX hbl hL hS hl 3 (by omega) dL_law_607 dL_law_608 dL_law_609 dL_law_610 dL_law_611 ?_
  refine law_ld hx hb hX hbl hL hS hl 4 (by omega) dL_law_612 dL_law_613 dL_law_614 dL_law_615 dL_law_616 ?_
  refine m_calli (m_runV (a := ad 8 0 0) (As := [.int (iI (zx xs (i + 1))), .int (iI (zx xs (i + 2))), .int (iI (zx xs (i + 3))), .int (iI (zx xs (i + 4)))]) (rest := []) ⟨hx, hb, hml, hown, hts⟩ (c_X4_apart l D s.heap.size _ ad nt ng sp nn jj vt vw vr G hI.1 (zx xs (i + 1)) (zx xs (i + 2)) (zx xs (i + 3)) (zx xs (i + 4)) zx_rg zx_rg zx_rg zx_rg) (cwV 4 hts gL_law_X4_apart rfl rfl rfl (by decide +kernel) ⟨Nat.le_of_ble_eq_true rfl, Nat.le_of_ble_eq_true rfl⟩) K hG hI.1.1 rfl rfl rfl hl.1 rfl (Nat.le_of_ble_eq_true rfl) dL_law_617 ⟨by show _ ≤ 600000; omega, by show _ ≤ 7302250; omega⟩) hS (fun r1 M1 H locs hw1 hG hS => ?_)
  have hO1 := mid_pure hI hw1
  refine lv_aload_n hx hb dL_law_620 rfl (lv_at hl 1 rfl) ?_
  refine law_ld hx hb hX hbl hL hS hl 1 (by omega) dL_law_621 dL_law_622 dL_law_623 dL_law_624 dL_law_625 ?_
  refine law_ld hx hb hX hbl hL hS hl 2 (by omega) dL_law_626 dL_law_627 dL_law_628 dL_law_629 dL_law_630 ?_
  refine law_ld hx hb hX hbl hL hS hl 3 (by omega) dL_law_631 dL_law_632 dL_law_633 dL_law_634 dL_law_635 ?_
  refine law_ld hx hb hX hbl hL hS hl 4 (by omega) dL_law_636 dL_law_637 dL_law_638 dL_law_639 dL_law_640 ?_
  refine m_calli (m_runV (a := am 0) (As := [.int (iI (zx xs (i + 1))), .int (iI (zx xs (i + 2))), .int (iI (zx xs (i + 3))), .int (iI (zx xs (i + 4)))]) (rest := [.int r1]) ⟨hx, hb, hml, hown, hts⟩ (c_X5_apart l D s.heap.size _ am nt ng sp nn jj sa sx sy ra gz va ac hO1 hI.2.2.2.2.1 (zx xs (i + 1)) (zx xs (i + 2)) (zx xs (i + 3)) (zx xs (i + 4)) zx_rg zx_rg zx_rg zx_rg) (cwV 4 hts gL_law_X5_apart rfl rfl rfl (by decide +kernel) ⟨Nat.le_of_ble_eq_true rfl, Nat.le_of_ble_eq_true rfl⟩) K hG hO1.1 rfl rfl rfl hl.1 rfl (Nat.le_of_ble_eq_true rfl) dL_law_641 ⟨by show _ ≤ 600000; omega, by show _ ≤ 7302250; omega⟩) hS (fun r2 M2 H locs hw2 hG hS => ?_)
  have hf := fin_pure hI hw1 hw2 (ans_apart hI (zx xs (i + 1)) (zx xs (i + 2)) (zx xs (i + 3)) (zx xs (i + 4)))
  refine lv_icmp_eq (tgt := 672) hx hb dL_law_644 (by decide) (fun _ => ?_) (fun h => absurd hf.1 h)
  exact W.widen (by omega) (by omega) (kk M2 H locs hf.2 hG hS)
set_option maxHeartbeats 4000000 in
set_option maxRecDepth 100000 in
theorem law_count (l : Launch) (C0 : LC D p s m meth c b0 L xs) (hi : i + 6 ≤ L) (hc : cells + 85 ≤ 600000) (hsl : slots + 443 ≤ 7302250) (hI : InvE M x mo) (hG : mG D s.heap.size M s H) (hS : va_S (mF s.heap.size) s.heap H locs) (hl : lv_has ls 4 [(3, .int (iI i)), (2, .ref mo), (1, .ref x), (0, .ref b0)]) (kk : ∀ (M2 : mM) (H2 : Heap) (locs2 : List Loc), InvE M2 x mo → mG D s.heap.size M2 s H2 → va_S (mF s.heap.size) s.heap H2 locs2 → W p l e room_1 s m #[Value.ref b0] below meth c H2 locs2 (cells + 85) (slots + 443) (lw_Z below #[Value.ref b0] s) (F0 m 672 ls [])) : W p l e room_1 s m #[Value.ref b0] below meth c H locs cells slots (lw_Z below #[Value.ref b0] s) (F0 m 649 ls []) := by
  obtain ⟨⟨hx, hb, hr, hml, hown, hts0, hX, hbl, hlk, hgv⟩, K, hL⟩ := C0
  have hts : ∀ w ∈ wsL_law, w.before #[Value.ref b0] s = true := fun w h => hts0 w (wsL_law_in w h)
  have hown : s.vm.findClass RL = some m.cls := hown
  obtain ⟨ad, tg, am, nt, ng, sp, nn, jj, vt, vw, vr, G, sa, sx, sy, ra, gz, va, ac, rfl, rfl, hI⟩ := hI
  refine lv_aload_n hx hb dL_law_649 rfl (lv_at hl 2 rfl) ?_
  refine law_ld hx hb hX hbl hL hS hl 1 (by omega) dL_law_650 dL_law_651 dL_law_652 dL_law_653 dL_law_654 ?_
  refine m_calli (m_runV (a := ad 8 0 0) (As := [.int (iI (zx xs (i + 1)))]) (rest := []) ⟨hx, hb, hml, hown, hts⟩ (c_X4_count l D s.heap.size _ ad nt ng sp nn jj vt vw vr G hI.1 (zx xs (i + 1)) zx_rg) (cwV 1 hts gL_law_X4_count rfl rfl rfl (by decide +kernel) ⟨Nat.le_of_ble_eq_true rfl, Nat.le_of_ble_eq_true rfl⟩) K hG hI.1.1 rfl rfl rfl hl.1 rfl (Nat.le_of_ble_eq_true rfl) dL_law_655 ⟨by show _ ≤ 600000; omega, by show _ ≤ 7302250; omega⟩) hS (fun r1 M1 H locs hw1 hG hS => ?_)
  have hO1 := mid_pure hI hw1
  refine lv_aload_n hx hb dL_law_658 rfl (lv_at hl 1 rfl) ?_
  refine law_ld hx hb hX hbl hL hS hl 1 (by omega) dL_law_659 dL_law_660 dL_law_661 dL_law_662 dL_law_663 ?_
  refine m_calli (m_runV (a := am 0) (As := [.int (iI (zx xs (i + 1)))]) (rest := [.int r1]) ⟨hx, hb, hml, hown, hts⟩ (c_X5_count l D s.heap.size _ am nt ng sp nn jj sa sx sy ra gz va ac hO1 (zx xs (i + 1)) zx_rg) (cwV 1 hts gL_law_X5_count rfl rfl rfl (by decide +kernel) ⟨Nat.le_of_ble_eq_true rfl, Nat.le_of_ble_eq_true rfl⟩) K hG hO1.1 rfl rfl rfl hl.1 rfl (Nat.le_of_ble_eq_true rfl) dL_law_664 ⟨by show _ ≤ 600000; omega, by show _ ≤ 7302250; omega⟩) hS (fun r2 M2 H locs hw2 hG hS => ?_)
  have hf := fin_pure hI hw1 hw2 rfl
  refine lv_icmp_eq (tgt := 672) hx hb dL_law_667 (by decide) (fun _ => ?_) (fun h => absurd hf.1 h)
  exact W.widen (by omega) (by omega) (kk M2 H locs hf.2 hG hS)
end CASES
