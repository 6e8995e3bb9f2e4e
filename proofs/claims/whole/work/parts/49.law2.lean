section LC2
variable {p : Program} {l : Launch} {e : Env} {s : State} {m : MethodId} {args : Array Value} {below : List Frame} {meth : Method} {c : Code} {H : Heap} {locs : List Loc} {cells slots : Nat} {Q : State → Prop}
variable {ls : Array Slot} {D : va_G} {ca : Nat → ClassId} {A : Nat → Prop}
variable {ad : Nat → Nat} {tT : Nat → Nat} {ps : Nat → Nat → Nat} {K : cH} {g : Nat → Int32} {ks : Nat → Nat → Int32} {SV P : Nat → Int32} {pl rp : Nat} {wb : Bool} {F : cF} {B SL : Nat → Int32} {mq : Nat} {mw : Bool} {G : Int32 × Int32 × Int32 × Int32} {b L i : Nat} {xs : Nat → Int32}
set_option maxHeartbeats 4000000 in
theorem law_ofFile (S : CallFix p m c code 4 s args TB "TapeEndsLaw") (hA : ∀ q, s.heap.size ≤ q → A q) (hK : va_K D classes (tys ca) s) (hc : cells ≤ room_1.cells ∧ slots ≤ room_1.slots) (hX : va_X b L xs s s.heap) (hbl : b < s.heap.size) (hbA : ¬ A b) (hL : L ≤ 2048) (hi : i + 4 ≤ L) (nx : Nxt p l e s m args below meth c cells slots Q D ca A ad tT ps b i) (hJ : JJ K g ks SV P pl B SL) (hW : JW D A s.heap ca ad tT ps K g ks SV P pl rp wb F B SL mq mw G H locs) (hl : lv_has ls 4 [(0, .ref b), (1, .ref (ad 0)), (2, .ref (ad 7)), (3, .int (nI i))]) : W p l e room_1 s m args below meth c H locs cells slots Q (F0 m 380 ls []) := by
  obtain ⟨hx, hb, hml, hown, hts⟩ := id S
  have hW : WW D A s.heap ((WE ca ad tT ps K g ks SV P pl rp wb F).flatten ++ (WM ca ad g B SL SV P K.2.2.2.2 pl mq mw G).flatten) H locs := hW
  refine lv_aload_n hx hb d_L_law_380 rfl (lv_at hl 1 rfl) ?_
  refine law_arg (j := 1) hx hb hX hbl hbA hL hW.2.2 hl (by omega) (by decide) d_L_law_381 d_L_law_382 d_L_law_383 d_L_law_384 d_L_law_385 ?_
  refine law_arg (j := 2) hx hb hX hbl hbA hL hW.2.2 hl (by omega) (by decide) d_L_law_386 d_L_law_387 d_L_law_388 d_L_law_389 d_L_law_390 ?_
  refine r_E_ofFile hJ.1.bN S hA hK hW hl.1 hc (Nat.le_of_ble_eq_true rfl) d_L_law_391 ?_
  refine lv_aload_n hx hb d_L_law_394 rfl (lv_at hl 2 rfl) ?_
  refine law_arg (j := 1) hx hb hX hbl hbA hL hW.2.2 hl (by omega) (by decide) d_L_law_395 d_L_law_396 d_L_law_397 d_L_law_398 d_L_law_399 ?_
  refine law_arg (j := 2) hx hb hX hbl hbA hL hW.2.2 hl (by omega) (by decide) d_L_law_400 d_L_law_401 d_L_law_402 d_L_law_403 d_L_law_404 ?_
  refine r_M_ofFile hJ.1.bN S hA hK hW.swap hl.1 hc (Nat.le_of_ble_eq_true rfl) d_L_law_405 ?_
  refine lv_icmp_eq (tgt := 722) hx hb d_L_law_408 (by decide) (fun _ => ?_) (fun q => absurd ?_ q)
  · exact nx _ _ _ _ _ _ _ _ _ _ _ _ _ _ _ _ _ hJ hW hl
  · exact rfl
set_option maxHeartbeats 4000000 in
theorem law_ofBlock (S : CallFix p m c code 4 s args TB "TapeEndsLaw") (hA : ∀ q, s.heap.size ≤ q → A q) (hK : va_K D classes (tys ca) s) (hc : cells ≤ room_1.cells ∧ slots ≤ room_1.slots) (hX : va_X b L xs s s.heap) (hbl : b < s.heap.size) (hbA : ¬ A b) (hL : L ≤ 2048) (hi : i + 4 ≤ L) (nx : Nxt p l e s m args below meth c cells slots Q D ca A ad tT ps b i) (hJ : JJ K g ks SV P pl B SL) (hW : JW D A s.heap ca ad tT ps K g ks SV P pl rp wb F B SL mq mw G H locs) (hl : lv_has ls 4 [(0, .ref b), (1, .ref (ad 0)), (2, .ref (ad 7)), (3, .int (nI i))]) : W p l e room_1 s m args below meth c H locs cells slots Q (F0 m 413 ls []) := by
  obtain ⟨hx, hb, hml, hown, hts⟩ := id S
  have hW : WW D A s.heap ((WE ca ad tT ps K g ks SV P pl rp wb F).flatten ++ (WM ca ad g B SL SV P K.2.2.2.2 pl mq mw G).flatten) H locs := hW
  refine lv_aload_n hx hb d_L_law_413 rfl (lv_at hl 1 rfl) ?_
  refine law_arg (j := 1) hx hb hX hbl hbA hL hW.2.2 hl (by omega) (by decide) d_L_law_414 d_L_law_415 d_L_law_416 d_L_law_417 d_L_law_418 ?_
  refine law_arg (j := 2) hx hb hX hbl hbA hL hW.2.2 hl (by omega) (by decide) d_L_law_419 d_L_law_420 d_L_law_421 d_L_law_422 d_L_law_423 ?_
  refine law_arg (j := 3) hx hb hX hbl hbA hL hW.2.2 hl (by omega) (by decide) d_L_law_424 d_L_law_425 d_L_law_426 d_L_law_427 d_L_law_428 ?_
  refine r_E_ofBlock hJ.1.bN S hA hK hW hl.1 hc (Nat.le_of_ble_eq_true rfl) d_L_law_429 ?_
  refine lv_aload_n hx hb d_L_law_432 rfl (lv_at hl 2 rfl) ?_
  refine law_arg (j := 1) hx hb hX hbl hbA hL hW.2.2 hl (by omega) (by decide) d_L_law_433 d_L_law_434 d_L_law_435 d_L_law_436 d_L_law_437 ?_
  refine law_arg (j := 2) hx hb hX hbl hbA hL hW.2.2 hl (by omega) (by decide) d_L_law_438 d_L_law_439 d_L_law_440 d_L_law_441 d_L_law_442 ?_
  refine law_arg (j := 3) hx hb hX hbl hbA hL hW.2.2 hl (by omega) (by decide) d_L_law_443 d_L_law_444 d_L_law_445 d_L_law_446 d_L_law_447 ?_
  refine r_M_ofBlock hJ.1.bN S hA hK hW.swap hl.1 hc (Nat.le_of_ble_eq_true rfl) d_L_law_448 ?_
  refine lv_icmp_eq (tgt := 722) hx hb d_L_law_451 (by decide) (fun _ => ?_) (fun q => absurd ?_ q)
  · exact nx _ _ _ _ _ _ _ _ _ _ _ _ _ _ _ _ _ hJ hW hl
  · exact (i_abl hJ.1).symm
set_option maxHeartbeats 4000000 in
theorem law_at (S : CallFix p m c code 4 s args TB "TapeEndsLaw") (hA : ∀ q, s.heap.size ≤ q → A q) (hK : va_K D classes (tys ca) s) (hc : cells ≤ room_1.cells ∧ slots ≤ room_1.slots) (hX : va_X b L xs s s.heap) (hbl : b < s.heap.size) (hbA : ¬ A b) (hL : L ≤ 2048) (hi : i + 4 ≤ L) (nx : Nxt p l e s m args below meth c cells slots Q D ca A ad tT ps b i) (hJ : JJ K g ks SV P pl B SL) (hW : JW D A s.heap ca ad tT ps K g ks SV P pl rp wb F B SL mq mw G H locs) (hl : lv_has ls 4 [(0, .ref b), (1, .ref (ad 0)), (2, .ref (ad 7)), (3, .int (nI i))]) : W p l e room_1 s m args below meth c H locs cells slots Q (F0 m 456 ls []) := by
  obtain ⟨hx, hb, hml, hown, hts⟩ := id S
  have hW : WW D A s.heap ((WE ca ad tT ps K g ks SV P pl rp wb F).flatten ++ (WM ca ad g B SL SV P K.2.2.2.2 pl mq mw G).flatten) H locs := hW
  refine lv_aload_n hx hb d_L_law_456 rfl (lv_at hl 1 rfl) ?_
  refine law_arg (j := 1) hx hb hX hbl hbA hL hW.2.2 hl (by omega) (by decide) d_L_law_457 d_L_law_458 d_L_law_459 d_L_law_460 d_L_law_461 ?_
  refine r_E_at hJ.1.bN S hA hK hW hl.1 hc (Nat.le_of_ble_eq_true rfl) d_L_law_462 ?_
  refine lv_aload_n hx hb d_L_law_465 rfl (lv_at hl 2 rfl) ?_
  refine law_arg (j := 1) hx hb hX hbl hbA hL hW.2.2 hl (by omega) (by decide) d_L_law_466 d_L_law_467 d_L_law_468 d_L_law_469 d_L_law_470 ?_
  refine r_M_at hJ.1.bN S hA hK hW.swap hl.1 hc (Nat.le_of_ble_eq_true rfl) d_L_law_471 ?_
  refine lv_icmp_eq (tgt := 722) hx hb d_L_law_474 (by decide) (fun _ => ?_) (fun q => absurd ?_ q)
  · exact nx _ _ _ _ _ _ _ _ _ _ _ _ _ _ _ _ _ hJ hW hl
  · exact (i_at hJ.1).symm
set_option maxHeartbeats 4000000 in
theorem law_count (S : CallFix p m c code 4 s args TB "TapeEndsLaw") (hA : ∀ q, s.heap.size ≤ q → A q) (hK : va_K D classes (tys ca) s) (hc : cells ≤ room_1.cells ∧ slots ≤ room_1.slots) (hX : va_X b L xs s s.heap) (hbl : b < s.heap.size) (hbA : ¬ A b) (hL : L ≤ 2048) (hi : i + 4 ≤ L) (nx : Nxt p l e s m args below meth c cells slots Q D ca A ad tT ps b i) (hJ : JJ K g ks SV P pl B SL) (hW : JW D A s.heap ca ad tT ps K g ks SV P pl rp wb F B SL mq mw G H locs) (hl : lv_has ls 4 [(0, .ref b), (1, .ref (ad 0)), (2, .ref (ad 7)), (3, .int (nI i))]) : W p l e room_1 s m args below meth c H locs cells slots Q (F0 m 479 ls []) := by
  obtain ⟨hx, hb, hml, hown, hts⟩ := id S
  have hW : WW D A s.heap ((WE ca ad tT ps K g ks SV P pl rp wb F).flatten ++ (WM ca ad g B SL SV P K.2.2.2.2 pl mq mw G).flatten) H locs := hW
  refine lv_aload_n hx hb d_L_law_479 rfl (lv_at hl 1 rfl) ?_
  refine law_arg (j := 1) hx hb hX hbl hbA hL hW.2.2 hl (by omega) (by decide) d_L_law_480 d_L_law_481 d_L_law_482 d_L_law_483 d_L_law_484 ?_
  refine r_E_count hJ.1.bN S hA hK hW hl.1 hc (Nat.le_of_ble_eq_true rfl) d_L_law_485 ?_
  refine lv_aload_n hx hb d_L_law_488 rfl (lv_at hl 2 rfl) ?_
  refine law_arg (j := 1) hx hb hX hbl hbA hL hW.2.2 hl (by omega) (by decide) d_L_law_489 d_L_law_490 d_L_law_491 d_L_law_492 d_L_law_493 ?_
  refine r_M_count hJ.1.bN S hA hK hW.swap hl.1 hc (Nat.le_of_ble_eq_true rfl) d_L_law_494 ?_
  refine lv_icmp_eq (tgt := 722) hx hb d_L_law_497 (by decide) (fun _ => ?_) (fun q => absurd ?_ q)
  · exact nx _ _ _ _ _ _ _ _ _ _ _ _ _ _ _ _ _ hJ hW hl
  · exact rfl
set_option maxHeartbeats 4000000 in
theorem law_fits (S : CallFix p m c code 4 s args TB "TapeEndsLaw") (hA : ∀ q, s.heap.size ≤ q → A q) (hK : va_K D classes (tys ca) s) (hc : cells ≤ room_1.cells ∧ slots ≤ room_1.slots) (hX : va_X b L xs s s.heap) (hbl : b < s.heap.size) (hbA : ¬ A b) (hL : L ≤ 2048) (hi : i + 4 ≤ L) (nx : Nxt p l e s m args below meth c cells slots Q D ca A ad tT ps b i) (hJ : JJ K g ks SV P pl B SL) (hW : JW D A s.heap ca ad tT ps K g ks SV P pl rp wb F B SL mq mw G H locs) (hl : lv_has ls 4 [(0, .ref b), (1, .ref (ad 0)), (2, .ref (ad 7)), (3, .int (nI i))]) : W p l e room_1 s m args below meth c H locs cells slots Q (F0 m 502 ls []) := by
  obtain ⟨hx, hb, hml, hown, hts⟩ := id S
  have hW : WW D A s.heap ((WE ca ad tT ps K g ks SV P pl rp wb F).flatten ++ (WM ca ad g B SL SV P K.2.2.2.2 pl mq mw G).flatten) H locs := hW
  refine lv_aload_n hx hb d_L_law_502 rfl (lv_at hl 1 rfl) ?_
  refine law_arg (j := 1) hx hb hX hbl hbA hL hW.2.2 hl (by omega) (by decide) d_L_law_503 d_L_law_504 d_L_law_505 d_L_law_506 d_L_law_507 ?_
  refine r_E_fits hJ.1.bN S hA hK hW hl.1 hc (Nat.le_of_ble_eq_true rfl) d_L_law_508 ?_
  refine lv_aload_n hx hb d_L_law_511 rfl (lv_at hl 2 rfl) ?_
  refine law_arg (j := 1) hx hb hX hbl hbA hL hW.2.2 hl (by omega) (by decide) d_L_law_512 d_L_law_513 d_L_law_514 d_L_law_515 d_L_law_516 ?_
  refine r_M_fits hJ.1.bN S hA hK hW.swap hl.1 hc (Nat.le_of_ble_eq_true rfl) d_L_law_517 ?_
  refine lv_icmp_eq (tgt := 722) hx hb d_L_law_520 (by decide) (fun _ => ?_) (fun q => absurd ?_ q)
  · exact nx _ _ _ _ _ _ _ _ _ _ _ _ _ _ _ _ _ hJ hW hl
  · exact (i_fit hJ.1).symm
set_option maxHeartbeats 4000000 in
theorem law_rooms (S : CallFix p m c code 4 s args TB "TapeEndsLaw") (hA : ∀ q, s.heap.size ≤ q → A q) (hK : va_K D classes (tys ca) s) (hc : cells ≤ room_1.cells ∧ slots ≤ room_1.slots) (hX : va_X b L xs s s.heap) (hbl : b < s.heap.size) (hbA : ¬ A b) (hL : L ≤ 2048) (hi : i + 4 ≤ L) (nx : Nxt p l e s m args below meth c cells slots Q D ca A ad tT ps b i) (hJ : JJ K g ks SV P pl B SL) (hW : JW D A s.heap ca ad tT ps K g ks SV P pl rp wb F B SL mq mw G H locs) (hl : lv_has ls 4 [(0, .ref b), (1, .ref (ad 0)), (2, .ref (ad 7)), (3, .int (nI i))]) : W p l e room_1 s m args below meth c H locs cells slots Q (F0 m 525 ls []) := by
  obtain ⟨hx, hb, hml, hown, hts⟩ := id S
  have hW : WW D A s.heap ((WE ca ad tT ps K g ks SV P pl rp wb F).flatten ++ (WM ca ad g B SL SV P K.2.2.2.2 pl mq mw G).flatten) H locs := hW
  refine lv_aload_n hx hb d_L_law_525 rfl (lv_at hl 1 rfl) ?_
  refine law_arg (j := 1) hx hb hX hbl hbA hL hW.2.2 hl (by omega) (by decide) d_L_law_526 d_L_law_527 d_L_law_528 d_L_law_529 d_L_law_530 ?_
  refine r_E_rooms hJ.1.bN S hA hK hW hl.1 hc (Nat.le_of_ble_eq_true rfl) d_L_law_531 ?_
  refine lv_aload_n hx hb d_L_law_534 rfl (lv_at hl 2 rfl) ?_
  refine law_arg (j := 1) hx hb hX hbl hbA hL hW.2.2 hl (by omega) (by decide) d_L_law_535 d_L_law_536 d_L_law_537 d_L_law_538 d_L_law_539 ?_
  refine r_M_rooms hJ.1.bN (i_rnz hJ.1) S hA hK hW.swap hl.1 hc (Nat.le_of_ble_eq_true rfl) d_L_law_540 ?_
  refine lv_icmp_eq (tgt := 722) hx hb d_L_law_543 (by decide) (fun _ => ?_) (fun q => absurd ?_ q)
  · exact nx _ _ _ _ _ _ _ _ _ _ _ _ _ _ _ _ _ hJ hW hl
  · exact (i_roo hJ.1).symm
set_option maxHeartbeats 4000000 in
theorem law_nearest (S : CallFix p m c code 4 s args TB "TapeEndsLaw") (hA : ∀ q, s.heap.size ≤ q → A q) (hK : va_K D classes (tys ca) s) (hc : cells ≤ room_1.cells ∧ slots ≤ room_1.slots) (hX : va_X b L xs s s.heap) (hbl : b < s.heap.size) (hbA : ¬ A b) (hL : L ≤ 2048) (hi : i + 4 ≤ L) (nx : Nxt p l e s m args below meth c cells slots Q D ca A ad tT ps b i) (hJ : JJ K g ks SV P pl B SL) (hW : JW D A s.heap ca ad tT ps K g ks SV P pl rp wb F B SL mq mw G H locs) (hl : lv_has ls 4 [(0, .ref b), (1, .ref (ad 0)), (2, .ref (ad 7)), (3, .int (nI i))]) : W p l e room_1 s m args below meth c H locs cells slots Q (F0 m 548 ls []) := by
  obtain ⟨hx, hb, hml, hown, hts⟩ := id S
  have hW : WW D A s.heap ((WE ca ad tT ps K g ks SV P pl rp wb F).flatten ++ (WM ca ad g B SL SV P K.2.2.2.2 pl mq mw G).flatten) H locs := hW
  refine lv_aload_n hx hb d_L_law_548 rfl (lv_at hl 1 rfl) ?_
  refine law_arg (j := 1) hx hb hX hbl hbA hL hW.2.2 hl (by omega) (by decide) d_L_law_549 d_L_law_550 d_L_law_551 d_L_law_552 d_L_law_553 ?_
  refine r_E_nearest hJ.1.bN S hA hK hW hl.1 hc (Nat.le_of_ble_eq_true rfl) d_L_law_554 ?_
  refine lv_aload_n hx hb d_L_law_557 rfl (lv_at hl 2 rfl) ?_
  refine law_arg (j := 1) hx hb hX hbl hbA hL hW.2.2 hl (by omega) (by decide) d_L_law_558 d_L_law_559 d_L_law_560 d_L_law_561 d_L_law_562 ?_
  refine r_M_nearest hJ.1.bN S hA hK hW.swap hl.1 hc (Nat.le_of_ble_eq_true rfl) d_L_law_563 ?_
  refine lv_icmp_eq (tgt := 722) hx hb d_L_law_566 (by decide) (fun _ => ?_) (fun q => absurd ?_ q)
  · exact nx _ _ _ _ _ _ _ _ _ _ _ _ _ _ _ _ _ hJ hW hl
  · exact (i_nea hJ.1).symm
set_option maxHeartbeats 4000000 in
theorem law_put (S : CallFix p m c code 4 s args TB "TapeEndsLaw") (hA : ∀ q, s.heap.size ≤ q → A q) (hK : va_K D classes (tys ca) s) (hc : cells ≤ room_1.cells ∧ slots ≤ room_1.slots) (hX : va_X b L xs s s.heap) (hbl : b < s.heap.size) (hbA : ¬ A b) (hL : L ≤ 2048) (hi : i + 4 ≤ L) (nx : Nxt p l e s m args below meth c cells slots Q D ca A ad tT ps b i) (hJ : JJ K g ks SV P pl B SL) (hW : JW D A s.heap ca ad tT ps K g ks SV P pl rp wb F B SL mq mw G H locs) (hl : lv_has ls 4 [(0, .ref b), (1, .ref (ad 0)), (2, .ref (ad 7)), (3, .int (nI i))]) : W p l e room_1 s m args below meth c H locs cells slots Q (F0 m 571 ls []) := by
  obtain ⟨hx, hb, hml, hown, hts⟩ := id S
  have hW : WW D A s.heap ((WE ca ad tT ps K g ks SV P pl rp wb F).flatten ++ (WM ca ad g B SL SV P K.2.2.2.2 pl mq mw G).flatten) H locs := hW
  obtain ⟨N, hN, eN⟩ := wb_of (((xs (i + 1)).toInt64 <<< ((32 : Int32).toInt64 &&& 63)) ||| ((xs (i + 2)).toInt64 &&& 4294967295))
  refine lv_aload_n hx hb d_L_law_571 rfl (lv_at hl 1 rfl) ?_
  refine law_arg (j := 1) hx hb hX hbl hbA hL hW.2.2 hl (by omega) (by decide) d_L_law_572 d_L_law_573 d_L_law_574 d_L_law_575 d_L_law_576 ?_
  refine lv_i2l (v := (xs (i + 1)).toInt64) hx hb d_L_law_577 rfl ?_
  refine lv_bipush (v := 32) hx hb d_L_law_578 (by decide) ?_
  refine lv_lshl hx hb d_L_law_580 rfl ?_
  refine law_arg (j := 2) hx hb hX hbl hbA hL hW.2.2 hl (by omega) (by decide) d_L_law_581 d_L_law_582 d_L_law_583 d_L_law_584 d_L_law_585 ?_
  refine lv_i2l (v := (xs (i + 2)).toInt64) hx hb d_L_law_586 rfl ?_
  refine lv_ldc2 (v := 4294967295) hx hb hown (hts _ ct_L_77) d_L_law_587 ?_
  refine lv_land hx hb d_L_law_590 ?_
  refine lv_lor hx hb d_L_law_591 ?_
  refine lv_topel (z := lN N) eN ?_
  refine r_E_put hN hJ.2.2.1 S hA hK hW hl.1 hc (Nat.le_of_ble_eq_true rfl) d_L_law_592 (fun H locs hW => ?_)
  refine lv_aload_n hx hb d_L_law_595 rfl (lv_at hl 2 rfl) ?_
  refine law_arg (j := 1) hx hb hX hbl hbA hL hW.2.2 hl (by omega) (by decide) d_L_law_596 d_L_law_597 d_L_law_598 d_L_law_599 d_L_law_600 ?_
  refine lv_i2l (v := (xs (i + 1)).toInt64) hx hb d_L_law_601 rfl ?_
  refine lv_bipush (v := 32) hx hb d_L_law_602 (by decide) ?_
  refine lv_lshl hx hb d_L_law_604 rfl ?_
  refine law_arg (j := 2) hx hb hX hbl hbA hL hW.2.2 hl (by omega) (by decide) d_L_law_605 d_L_law_606 d_L_law_607 d_L_law_608 d_L_law_609 ?_
  refine lv_i2l (v := (xs (i + 2)).toInt64) hx hb d_L_law_610 rfl ?_
  refine lv_ldc2 (v := 4294967295) hx hb hown (hts _ ct_L_77) d_L_law_611 ?_
  refine lv_land hx hb d_L_law_614 ?_
  refine lv_lor hx hb d_L_law_615 ?_
  refine lv_topel (z := lN N) eN ?_
  refine r_M_put hN hJ.2.2.1 S hA hK hW.swap hl.1 hc (Nat.le_of_ble_eq_true rfl) d_L_law_616 (fun H locs hW => ?_)
  refine lv_icmp_eq (tgt := 722) hx hb d_L_law_619 (by decide) (fun _ => ?_) (fun q => absurd ?_ q)
  · obtain ⟨h1, h2, h3, h4, h5, h6⟩ := hJ
    obtain ⟨t1, t2⟩ := i_pch (N := N) h4 h3
    rw [i_put] at hW
    exact nx _ _ _ _ _ _ _ _ _ _ _ _ _ _ _ _ _ ⟨h1, h2, t2, t1, h5, h6⟩ hW.swap hl
  · rw [i_put]
set_option maxHeartbeats 4000000 in
theorem law_wipe (S : CallFix p m c code 4 s args TB "TapeEndsLaw") (hA : ∀ q, s.heap.size ≤ q → A q) (hK : va_K D classes (tys ca) s) (hc : cells ≤ room_1.cells ∧ slots ≤ room_1.slots) (hX : va_X b L xs s s.heap) (hbl : b < s.heap.size) (hbA : ¬ A b) (hL : L ≤ 2048) (hi : i + 4 ≤ L) (nx : Nxt p l e s m args below meth c cells slots Q D ca A ad tT ps b i) (hJ : JJ K g ks SV P pl B SL) (hW : JW D A s.heap ca ad tT ps K g ks SV P pl rp wb F B SL mq mw G H locs) (hl : lv_has ls 4 [(0, .ref b), (1, .ref (ad 0)), (2, .ref (ad 7)), (3, .int (nI i))]) : W p l e room_1 s m args below meth c H locs cells slots Q (F0 m 624 ls []) := by
  obtain ⟨hx, hb, hml, hown, hts⟩ := id S
  have hW : WW D A s.heap ((WE ca ad tT ps K g ks SV P pl rp wb F).flatten ++ (WM ca ad g B SL SV P K.2.2.2.2 pl mq mw G).flatten) H locs := hW
  refine lv_aload_n hx hb d_L_law_624 rfl (lv_at hl 1 rfl) ?_
  refine r_E_wipe  S hA hK hW hl.1 hc (Nat.le_of_ble_eq_true rfl) d_L_law_625 (fun H locs hW => ?_)
  refine lv_aload_n hx hb d_L_law_628 rfl (lv_at hl 2 rfl) ?_
  refine r_M_wipe  S hA hK hW.swap hl.1 hc (Nat.le_of_ble_eq_true rfl) d_L_law_629 (fun H locs hW => ?_)
  refine lv_icmp_eq (tgt := 722) hx hb d_L_law_632 (by decide) (fun _ => ?_) (fun q => absurd ?_ q)
  · obtain ⟨h1, h2, h3, h4, h5, h6⟩ := hJ
    exact nx _ _ _ _ _ _ _ _ _ _ _ _ _ _ _ _ _ ⟨h1, h2, Nat.zero_le _, fun j hj => absurd hj (Nat.not_lt_zero _), h5, h6⟩ hW.swap hl
  · rfl
set_option maxHeartbeats 4000000 in
theorem law_fault (S : CallFix p m c code 4 s args TB "TapeEndsLaw") (hA : ∀ q, s.heap.size ≤ q → A q) (hK : va_K D classes (tys ca) s) (hc : cells ≤ room_1.cells ∧ slots ≤ room_1.slots) (hX : va_X b L xs s s.heap) (hbl : b < s.heap.size) (hbA : ¬ A b) (hL : L ≤ 2048) (hi : i + 4 ≤ L) (nx : Nxt p l e s m args below meth c cells slots Q D ca A ad tT ps b i) (hJ : JJ K g ks SV P pl B SL) (hW : JW D A s.heap ca ad tT ps K g ks SV P pl rp wb F B SL mq mw G H locs) (hl : lv_has ls 4 [(0, .ref b), (1, .ref (ad 0)), (2, .ref (ad 7)), (3, .int (nI i))]) : W p l e room_1 s m args below meth c H locs cells slots Q (F0 m 637 ls []) := by
  obtain ⟨hx, hb, hml, hown, hts⟩ := id S
  have hW : WW D A s.heap ((WE ca ad tT ps K g ks SV P pl rp wb F).flatten ++ (WM ca ad g B SL SV P K.2.2.2.2 pl mq mw G).flatten) H locs := hW
  refine lv_aload_n hx hb d_L_law_637 rfl (lv_at hl 1 rfl) ?_
  refine r_E_fault hJ.2.2.1 hJ.2.2.2.1 S hA hK hW hl.1 hc (Nat.le_of_ble_eq_true rfl) d_L_law_638 (fun H locs hW => ?_)
  refine lv_aload_n hx hb d_L_law_641 rfl (lv_at hl 2 rfl) ?_
  refine r_M_fault hJ.2.2.1 S hA hK hW.swap hl.1 hc (Nat.le_of_ble_eq_true rfl) d_L_law_642 (fun H locs hW => ?_)
  refine lv_icmp_eq (tgt := 722) hx hb d_L_law_645 (by decide) (fun _ => ?_) (fun q => absurd ?_ q)
  · exact nx _ _ _ _ _ _ _ _ _ _ _ _ _ _ _ _ _ hJ hW.swap hl
  · exact i_fau P pl F
set_option maxHeartbeats 4000000 in
theorem law_carryOut (S : CallFix p m c code 4 s args TB "TapeEndsLaw") (hA : ∀ q, s.heap.size ≤ q → A q) (hK : va_K D classes (tys ca) s) (hc : cells ≤ room_1.cells ∧ slots ≤ room_1.slots) (hX : va_X b L xs s s.heap) (hbl : b < s.heap.size) (hbA : ¬ A b) (hL : L ≤ 2048) (hi : i + 4 ≤ L) (nx : Nxt p l e s m args below meth c cells slots Q D ca A ad tT ps b i) (hJ : JJ K g ks SV P pl B SL) (hW : JW D A s.heap ca ad tT ps K g ks SV P pl rp wb F B SL mq mw G H locs) (hl : lv_has ls 4 [(0, .ref b), (1, .ref (ad 0)), (2, .ref (ad 7)), (3, .int (nI i))]) : W p l e room_1 s m args below meth c H locs cells slots Q (F0 m 650 ls []) := by
  obtain ⟨hx, hb, hml, hown, hts⟩ := id S
  obtain ⟨a1, a2, a3, a4, a5, a6, a7⟩ := i_car (P := P) (F := F) (gB := K.2.2.2.1) hJ.1 hJ.2.2.1
  have hW : WW D A s.heap ((WE ca ad tT ps K g ks SV P pl rp wb F).flatten ++ (WM ca ad g B SL SV P K.2.2.2.2 pl mq mw G).flatten) H locs := hW
  refine lv_aload_n hx hb d_L_law_650 rfl (lv_at hl 1 rfl) ?_
  refine r_E_carryOut hJ.1.bN hJ.2.1 hJ.2.2.1 hJ.2.2.2.1 S hA hK hW hl.1 hc (Nat.le_of_ble_eq_true rfl) d_L_law_651 (fun H locs hW => ?_)
  refine lv_aload_n hx hb d_L_law_654 rfl (lv_at hl 2 rfl) ?_
  refine r_M_carryOut hJ.2.2.1 hJ.1.bN hJ.2.1 S hA hK hW.swap hl.1 hc (Nat.le_of_ble_eq_true rfl) d_L_law_655 (fun H locs hW => ?_)
  refine lv_icmp_eq (tgt := 722) hx hb d_L_law_658 (by decide) (fun _ => ?_) (fun q => absurd ?_ q)
  · rw [a1, a2, a3] at hW
    obtain ⟨K', B', hJ', hW'⟩ := J_rec (r := ((m_car P pl g).1, (m_car P pl g).2.1, (m_car P pl g).2.2.1)) (gB := (c_car P pl F g K.2.2.2.1).2.2.1) hJ a7 a4 (fun q => a5 (a4.trans (decide_eq_true q))) (fun _ _ => rfl) a6 hW
    exact nx _ _ _ _ _ _ _ _ _ _ _ _ _ _ _ _ _ hJ' hW' hl
  · exact a1
set_option maxHeartbeats 4000000 in
theorem law_undo (S : CallFix p m c code 4 s args TB "TapeEndsLaw") (hA : ∀ q, s.heap.size ≤ q → A q) (hK : va_K D classes (tys ca) s) (hc : cells ≤ room_1.cells ∧ slots ≤ room_1.slots) (hX : va_X b L xs s s.heap) (hbl : b < s.heap.size) (hbA : ¬ A b) (hL : L ≤ 2048) (hi : i + 4 ≤ L) (nx : Nxt p l e s m args below meth c cells slots Q D ca A ad tT ps b i) (hJ : JJ K g ks SV P pl B SL) (hW : JW D A s.heap ca ad tT ps K g ks SV P pl rp wb F B SL mq mw G H locs) (hl : lv_has ls 4 [(0, .ref b), (1, .ref (ad 0)), (2, .ref (ad 7)), (3, .int (nI i))]) : W p l e room_1 s m args below meth c H locs cells slots Q (F0 m 663 ls []) := by
  obtain ⟨hx, hb, hml, hown, hts⟩ := id S
  obtain ⟨a1, a2, a3, a4, a5, a6⟩ := und_eq (g := g) hJ.2.2.2.2.1 hJ.2.1 hJ.1
  have hW : WW D A s.heap ((WE ca ad tT ps K g ks SV P pl rp wb F).flatten ++ (WM ca ad g B SL SV P K.2.2.2.2 pl mq mw G).flatten) H locs := hW
  refine lv_aload_n hx hb d_L_law_663 rfl (lv_at hl 1 rfl) ?_
  refine r_E_undo hJ.2.1 S hA hK hW hl.1 hc (Nat.le_of_ble_eq_true rfl) d_L_law_664 (fun H locs hW => ?_)
  refine lv_aload_n hx hb d_L_law_667 rfl (lv_at hl 2 rfl) ?_
  refine r_M_undo hJ.2.1 S hA hK hW.swap hl.1 hc (Nat.le_of_ble_eq_true rfl) d_L_law_668 (fun H locs hW => ?_)
  refine lv_icmp_eq (tgt := 722) hx hb d_L_law_671 (by decide) (fun _ => ?_) (fun q => absurd ?_ q)
  · obtain ⟨h1, h2, h3, h4, h5, h6⟩ := hJ
    rw [a3, WE_eqT a2] at hW
    exact nx (K.1, K.2.1, K.2.2.1, K.2.2.2.1, (m_und g B K.2.2.2.2).2.2) _ _ _ _ _ _ _ _ _ _ _ _ _ _ _ _ ⟨a4, a6, h3, h4, a5, h6⟩ hW.swap hl
  · exact a1
set_option maxHeartbeats 4000000 in
theorem law_save (S : CallFix p m c code 4 s args TB "TapeEndsLaw") (hA : ∀ q, s.heap.size ≤ q → A q) (hK : va_K D classes (tys ca) s) (hc : cells ≤ room_1.cells ∧ slots ≤ room_1.slots) (hX : va_X b L xs s s.heap) (hbl : b < s.heap.size) (hbA : ¬ A b) (hL : L ≤ 2048) (hi : i + 4 ≤ L) (nx : Nxt p l e s m args below meth c cells slots Q D ca A ad tT ps b i) (hJ : JJ K g ks SV P pl B SL) (hW : JW D A s.heap ca ad tT ps K g ks SV P pl rp wb F B SL mq mw G H locs) (hl : lv_has ls 4 [(0, .ref b), (1, .ref (ad 0)), (2, .ref (ad 7)), (3, .int (nI i))]) : W p l e room_1 s m args below meth c H locs cells slots Q (F0 m 676 ls []) := by
  obtain ⟨hx, hb, hml, hown, hts⟩ := id S
  obtain ⟨a1, a2, a3⟩ := sav_eq (x := xs (i + 1)) hJ.2.2.2.2.2 hJ.1
  have hW : WW D A s.heap ((WE ca ad tT ps K g ks SV P pl rp wb F).flatten ++ (WM ca ad g B SL SV P K.2.2.2.2 pl mq mw G).flatten) H locs := hW
  refine lv_aload_n hx hb d_L_law_676 rfl (lv_at hl 1 rfl) ?_
  refine law_arg (j := 1) hx hb hX hbl hbA hL hW.2.2 hl (by omega) (by decide) d_L_law_677 d_L_law_678 d_L_law_679 d_L_law_680 d_L_law_681 ?_
  refine r_E_save hJ.1.bN S hA hK hW hl.1 hc (Nat.le_of_ble_eq_true rfl) d_L_law_682 (fun H locs hW => ?_)
  refine lv_aload_n hx hb d_L_law_685 rfl (lv_at hl 2 rfl) ?_
  refine law_arg (j := 1) hx hb hX hbl hbA hL hW.2.2 hl (by omega) (by decide) d_L_law_686 d_L_law_687 d_L_law_688 d_L_law_689 d_L_law_690 ?_
  refine r_M_save hJ.1.bN S hA hK hW.swap hl.1 hc (Nat.le_of_ble_eq_true rfl) d_L_law_691 (fun H locs hW => ?_)
  refine lv_icmp_eq (tgt := 722) hx hb d_L_law_694 (by decide) (fun _ => ?_) (fun q => absurd ?_ q)
  · obtain ⟨h1, h2, h3, h4, h5, h6⟩ := hJ
    rw [a2] at hW
    exact nx _ _ _ _ _ _ _ _ _ _ _ _ _ _ _ _ _ ⟨h1, h2, h3, h4, h5, a3⟩ hW.swap hl
  · exact a1
set_option maxHeartbeats 4000000 in
theorem law_restore (S : CallFix p m c code 4 s args TB "TapeEndsLaw") (hA : ∀ q, s.heap.size ≤ q → A q) (hK : va_K D classes (tys ca) s) (hc : cells ≤ room_1.cells ∧ slots ≤ room_1.slots) (hX : va_X b L xs s s.heap) (hbl : b < s.heap.size) (hbA : ¬ A b) (hL : L ≤ 2048) (hi : i + 4 ≤ L) (nx : Nxt p l e s m args below meth c cells slots Q D ca A ad tT ps b i) (hJ : JJ K g ks SV P pl B SL) (hW : JW D A s.heap ca ad tT ps K g ks SV P pl rp wb F B SL mq mw G H locs) (hl : lv_has ls 4 [(0, .ref b), (1, .ref (ad 0)), (2, .ref (ad 7)), (3, .int (nI i))]) : W p l e room_1 s m args below meth c H locs cells slots Q (F0 m 699 ls []) := by
  obtain ⟨hx, hb, hml, hown, hts⟩ := id S
  obtain ⟨a1, a2, a3, a4, a5⟩ := res_eq (gB := K.2.2.2.1) (x := xs (i + 1)) hJ.2.2.2.2.2 hJ.1
  have hW : WW D A s.heap ((WE ca ad tT ps K g ks SV P pl rp wb F).flatten ++ (WM ca ad g B SL SV P K.2.2.2.2 pl mq mw G).flatten) H locs := hW
  refine lv_aload_n hx hb d_L_law_699 rfl (lv_at hl 1 rfl) ?_
  refine law_arg (j := 1) hx hb hX hbl hbA hL hW.2.2 hl (by omega) (by decide) d_L_law_700 d_L_law_701 d_L_law_702 d_L_law_703 d_L_law_704 ?_
  refine r_E_restore (fun f hf q => (hJ.2.2.2.2.2 f hf q).1.bN) hJ.2.1 S hA hK hW hl.1 hc (Nat.le_of_ble_eq_true rfl) d_L_law_705 (fun H locs hW => ?_)
  refine lv_aload_n hx hb d_L_law_708 rfl (lv_at hl 2 rfl) ?_
  refine law_arg (j := 1) hx hb hX hbl hbA hL hW.2.2 hl (by omega) (by decide) d_L_law_709 d_L_law_710 d_L_law_711 d_L_law_712 d_L_law_713 ?_
  refine r_M_restore (fun f hf q => (Inv_eqT (cb_eqT (hJ.2.2.2.2.2 f hf q).2) (hJ.2.2.2.2.2 f hf q).1).bN) hJ.2.1 S hA hK hW.swap hl.1 hc (Nat.le_of_ble_eq_true rfl) d_L_law_714 (fun H locs hW => ?_)
  refine lv_icmp_eq (tgt := 722) hx hb d_L_law_717 (by decide) (fun _ => ?_) (fun q => absurd ?_ q)
  · rw [a1] at hW
    obtain ⟨K', B', hJ', hW'⟩ := J_rec (r := m_res g SL SV (xs (i + 1))) (gB := c_rgB g K.2.2.2.1 SV (xs (i + 1))) hJ (Nat.le_refl _) a3 a4 a2 a5 hW
    exact nx _ _ _ _ _ _ _ _ _ _ _ _ _ _ _ _ _ hJ' hW' hl
  · exact a1
end LC2
