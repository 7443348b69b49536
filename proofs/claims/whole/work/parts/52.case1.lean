/-! the calls of the law, each of the class and of the reference -/
set_option maxRecDepth 100000 in
theorem law_c8 {p : Program} {l : Launch} {e : Env} {s : State} {m : MethodId} {below : List Frame} {meth : Method} {c : Code} {b L : Nat} {xs : Nat → Int32} (C0 : lw_At p s m meth c b L xs) (hL : L ≤ 3072) {D : va_G} {ad : Nat → Nat → Nat} {cI cT cS : ClassId} (hK : va_K D vwCl (Tys cI cT cS) s) (hNW : NWs s) {i : Nat} (hi : i + 6 ≤ L) {x : Mem} {H : Heap} {locs : List Loc} {ls : Array Slot} (hI : Inv x) (hW : WO D ad cI cT cS (AL s) s.heap x H locs) (hl : lv_has ls 4 (LV b ad i)) (kk : ∀ (x1 : Mem) (H1 : Heap) (locs1 : List Loc), Inv x1 → WO D ad cI cT cS (AL s) s.heap x1 H1 locs1 → LG p l e s m b below meth c H1 locs1 (F0 m 1144 ls [])) : LG p l e s m b below meth c H locs (F0 m 400 ls []) := by
  obtain ⟨hx, hb, hr, hml, hown, hts, hX, hbl, hlocks, hgv⟩ := id C0
  refine lv_aload_n hx hb dL_law_400 rfl (lv_at hl 1 rfl) ?_
  refine law_arg C0 hL (k := 1) (by omega) hW.2.2 hl (by decide +kernel) dL_law_401 dL_law_402 dL_law_403 dL_law_404 dL_law_405 ?_
  refine law_arg C0 hL (k := 2) (by omega) hW.2.2 hl (by decide +kernel) dL_law_406 dL_law_407 dL_law_408 dL_law_409 dL_law_410 ?_
  refine law_call C0 hK hNW LIM (k := 0) (mm := 36) (i2 := 2) (av := [vi (xs (i + 1)), vi (xs (i + 2))]) (r := []) (op_run hI) (by decide) (lw_inst (by decide) rfl) (lw_sel (by decide) rfl) rfl (by decide) rfl rfl (ROKi [xs (i + 1), xs (i + 2)]) (lwt2 (i := 88) rfl) dL_law_411 hl.1 (Nat.le_of_ble_eq_true rfl) hW (fun v x1 H1 locs1 hq hW1 => ?_)
  obtain ⟨r0, rfl, hq2⟩ := hq
  refine lv_aload_n hx hb dL_law_414 rfl (lv_at hl 2 rfl) ?_
  refine law_arg C0 hL (k := 1) (by omega) hW1.2.2 hl (by decide +kernel) dL_law_415 dL_law_416 dL_law_417 dL_law_418 dL_law_419 ?_
  refine law_arg C0 hL (k := 2) (by omega) hW1.2.2 hl (by decide +kernel) dL_law_420 dL_law_421 dL_law_422 dL_law_423 dL_law_424 ?_
  refine law_call C0 hK hNW LIM (k := 13) (mm := 113) (i2 := 2) (av := [vi (xs (i + 1)), vi (xs (i + 2))]) (r := [vi r0]) hq2 (by decide) (lw_inst (by decide) rfl) (lw_sel (by decide) rfl) rfl (by decide) rfl rfl (ROKi [xs (i + 1), xs (i + 2)]) (lwt4 (i := 11) rfl) dL_law_425 hl.1 (Nat.le_of_ble_eq_true rfl) hW1 (fun v x2 H2 locs2 hq hW2 => ?_)
  obtain ⟨rfl, hI2⟩ := hq
  exact lv_icmp_eq (tgt := 1144) hx hb dL_law_428 (by decide) (fun _ => kk x2 H2 locs2 hI2 hW2) (fun q => absurd rfl q)
set_option maxRecDepth 100000 in
theorem law_c9 {p : Program} {l : Launch} {e : Env} {s : State} {m : MethodId} {below : List Frame} {meth : Method} {c : Code} {b L : Nat} {xs : Nat → Int32} (C0 : lw_At p s m meth c b L xs) (hL : L ≤ 3072) {D : va_G} {ad : Nat → Nat → Nat} {cI cT cS : ClassId} (hK : va_K D vwCl (Tys cI cT cS) s) (hNW : NWs s) {i : Nat} (hi : i + 6 ≤ L) {x : Mem} {H : Heap} {locs : List Loc} {ls : Array Slot} (hI : Inv x) (hW : WO D ad cI cT cS (AL s) s.heap x H locs) (hl : lv_has ls 4 (LV b ad i)) (kk : ∀ (x1 : Mem) (H1 : Heap) (locs1 : List Loc), Inv x1 → WO D ad cI cT cS (AL s) s.heap x1 H1 locs1 → LG p l e s m b below meth c H1 locs1 (F0 m 1144 ls [])) : LG p l e s m b below meth c H locs (F0 m 433 ls []) := by
  obtain ⟨hx, hb, hr, hml, hown, hts, hX, hbl, hlocks, hgv⟩ := id C0
  refine lv_aload_n hx hb dL_law_433 rfl (lv_at hl 1 rfl) ?_
  refine law_arg C0 hL (k := 1) (by omega) hW.2.2 hl (by decide +kernel) dL_law_434 dL_law_435 dL_law_436 dL_law_437 dL_law_438 ?_
  refine law_arg C0 hL (k := 2) (by omega) hW.2.2 hl (by decide +kernel) dL_law_439 dL_law_440 dL_law_441 dL_law_442 dL_law_443 ?_
  refine law_arg C0 hL (k := 3) (by omega) hW.2.2 hl (by decide +kernel) dL_law_444 dL_law_445 dL_law_446 dL_law_447 dL_law_448 ?_
  refine law_call C0 hK hNW LIM (k := 0) (mm := 37) (i2 := 3) (av := [vi (xs (i + 1)), vi (xs (i + 2)), vi (xs (i + 3))]) (r := []) (op_lump hI) (by decide) (lw_inst (by decide) rfl) (lw_sel (by decide) rfl) rfl (by decide) rfl rfl (ROKi [xs (i + 1), xs (i + 2), xs (i + 3)]) (lwt2 (i := 116) rfl) dL_law_449 hl.1 (Nat.le_of_ble_eq_true rfl) hW (fun v x1 H1 locs1 hq hW1 => ?_)
  obtain ⟨r0, rfl, hq2⟩ := hq
  refine lv_aload_n hx hb dL_law_452 rfl (lv_at hl 2 rfl) ?_
  refine law_arg C0 hL (k := 1) (by omega) hW1.2.2 hl (by decide +kernel) dL_law_453 dL_law_454 dL_law_455 dL_law_456 dL_law_457 ?_
  refine law_arg C0 hL (k := 2) (by omega) hW1.2.2 hl (by decide +kernel) dL_law_458 dL_law_459 dL_law_460 dL_law_461 dL_law_462 ?_
  refine law_arg C0 hL (k := 3) (by omega) hW1.2.2 hl (by decide +kernel) dL_law_463 dL_law_464 dL_law_465 dL_law_466 dL_law_467 ?_
  refine law_call C0 hK hNW LIM (k := 13) (mm := 114) (i2 := 3) (av := [vi (xs (i + 1)), vi (xs (i + 2)), vi (xs (i + 3))]) (r := [vi r0]) hq2 (by decide) (lw_inst (by decide) rfl) (lw_sel (by decide) rfl) rfl (by decide) rfl rfl (ROKi [xs (i + 1), xs (i + 2), xs (i + 3)]) (lwt4 (i := 31) rfl) dL_law_468 hl.1 (Nat.le_of_ble_eq_true rfl) hW1 (fun v x2 H2 locs2 hq hW2 => ?_)
  obtain ⟨rfl, hI2⟩ := hq
  exact lv_icmp_eq (tgt := 1144) hx hb dL_law_471 (by decide) (fun _ => kk x2 H2 locs2 hI2 hW2) (fun q => absurd rfl q)
set_option maxRecDepth 100000 in
theorem law_c10 {p : Program} {l : Launch} {e : Env} {s : State} {m : MethodId} {below : List Frame} {meth : Method} {c : Code} {b L : Nat} {xs : Nat → Int32} (C0 : lw_At p s m meth c b L xs) (hL : L ≤ 3072) {D : va_G} {ad : Nat → Nat → Nat} {cI cT cS : ClassId} (hK : va_K D vwCl (Tys cI cT cS) s) (hNW : NWs s) {i : Nat} (hi : i + 6 ≤ L) {x : Mem} {H : Heap} {locs : List Loc} {ls : Array Slot} (hI : Inv x) (hW : WO D ad cI cT cS (AL s) s.heap x H locs) (hl : lv_has ls 4 (LV b ad i)) (kk : ∀ (x1 : Mem) (H1 : Heap) (locs1 : List Loc), Inv x1 → WO D ad cI cT cS (AL s) s.heap x1 H1 locs1 → LG p l e s m b below meth c H1 locs1 (F0 m 1144 ls [])) : LG p l e s m b below meth c H locs (F0 m 476 ls []) := by
  obtain ⟨hx, hb, hr, hml, hown, hts, hX, hbl, hlocks, hgv⟩ := id C0
  refine lv_aload_n hx hb dL_law_476 rfl (lv_at hl 1 rfl) ?_
  refine law_arg C0 hL (k := 1) (by omega) hW.2.2 hl (by decide +kernel) dL_law_477 dL_law_478 dL_law_479 dL_law_480 dL_law_481 ?_
  refine law_arg C0 hL (k := 2) (by omega) hW.2.2 hl (by decide +kernel) dL_law_482 dL_law_483 dL_law_484 dL_law_485 dL_law_486 ?_
  refine law_arg C0 hL (k := 3) (by omega) hW.2.2 hl (by decide +kernel) dL_law_487 dL_law_488 dL_law_489 dL_law_490 dL_law_491 ?_
  refine law_arg C0 hL (k := 4) (by omega) hW.2.2 hl (by decide +kernel) dL_law_492 dL_law_493 dL_law_494 dL_law_495 dL_law_496 ?_
  refine law_arg C0 hL (k := 5) (by omega) hW.2.2 hl (by decide +kernel) dL_law_497 dL_law_498 dL_law_499 dL_law_500 dL_law_501 ?_
  refine law_call C0 hK hNW LIM (k := 0) (mm := 38) (i2 := 5) (av := [vi (xs (i + 1)), vi (xs (i + 2)), vi (xs (i + 3)), vi (xs (i + 4)), vi (xs (i + 5))]) (r := []) (op_plan hI) (by decide) (lw_inst (by decide) rfl) (lw_sel (by decide) rfl) rfl (by decide) rfl rfl (ROKi [xs (i + 1), xs (i + 2), xs (i + 3), xs (i + 4), xs (i + 5)]) (lwt2 (i := 121) rfl) dL_law_502 hl.1 (Nat.le_of_ble_eq_true rfl) hW (fun v x1 H1 locs1 hq hW1 => ?_)
  obtain ⟨r0, rfl, hq2⟩ := hq
  refine lv_aload_n hx hb dL_law_505 rfl (lv_at hl 2 rfl) ?_
  refine law_arg C0 hL (k := 1) (by omega) hW1.2.2 hl (by decide +kernel) dL_law_506 dL_law_507 dL_law_508 dL_law_509 dL_law_510 ?_
  refine law_arg C0 hL (k := 2) (by omega) hW1.2.2 hl (by decide +kernel) dL_law_511 dL_law_512 dL_law_513 dL_law_514 dL_law_515 ?_
  refine law_arg C0 hL (k := 3) (by omega) hW1.2.2 hl (by decide +kernel) dL_law_516 dL_law_517 dL_law_518 dL_law_519 dL_law_520 ?_
  refine law_arg C0 hL (k := 4) (by omega) hW1.2.2 hl (by decide +kernel) dL_law_521 dL_law_522 dL_law_523 dL_law_524 dL_law_525 ?_
  refine law_arg C0 hL (k := 5) (by omega) hW1.2.2 hl (by decide +kernel) dL_law_526 dL_law_527 dL_law_528 dL_law_529 dL_law_530 ?_
  refine law_call C0 hK hNW LIM (k := 13) (mm := 115) (i2 := 5) (av := [vi (xs (i + 1)), vi (xs (i + 2)), vi (xs (i + 3)), vi (xs (i + 4)), vi (xs (i + 5))]) (r := [vi r0]) hq2 (by decide) (lw_inst (by decide) rfl) (lw_sel (by decide) rfl) rfl (by decide) rfl rfl (ROKi [xs (i + 1), xs (i + 2), xs (i + 3), xs (i + 4), xs (i + 5)]) (lwt4 (i := 36) rfl) dL_law_531 hl.1 (Nat.le_of_ble_eq_true rfl) hW1 (fun v x2 H2 locs2 hq hW2 => ?_)
  obtain ⟨rfl, hI2⟩ := hq
  exact lv_icmp_eq (tgt := 1144) hx hb dL_law_534 (by decide) (fun _ => kk x2 H2 locs2 hI2 hW2) (fun q => absurd rfl q)
set_option maxRecDepth 100000 in
theorem law_c11 {p : Program} {l : Launch} {e : Env} {s : State} {m : MethodId} {below : List Frame} {meth : Method} {c : Code} {b L : Nat} {xs : Nat → Int32} (C0 : lw_At p s m meth c b L xs) (hL : L ≤ 3072) {D : va_G} {ad : Nat → Nat → Nat} {cI cT cS : ClassId} (hK : va_K D vwCl (Tys cI cT cS) s) (hNW : NWs s) {i : Nat} (hi : i + 6 ≤ L) {x : Mem} {H : Heap} {locs : List Loc} {ls : Array Slot} (hI : Inv x) (hW : WO D ad cI cT cS (AL s) s.heap x H locs) (hl : lv_has ls 4 (LV b ad i)) (kk : ∀ (x1 : Mem) (H1 : Heap) (locs1 : List Loc), Inv x1 → WO D ad cI cT cS (AL s) s.heap x1 H1 locs1 → LG p l e s m b below meth c H1 locs1 (F0 m 1144 ls [])) : LG p l e s m b below meth c H locs (F0 m 539 ls []) := by
  obtain ⟨hx, hb, hr, hml, hown, hts, hX, hbl, hlocks, hgv⟩ := id C0
  refine lv_aload_n hx hb dL_law_539 rfl (lv_at hl 1 rfl) ?_
  refine law_arg C0 hL (k := 1) (by omega) hW.2.2 hl (by decide +kernel) dL_law_540 dL_law_541 dL_law_542 dL_law_543 dL_law_544 ?_
  refine law_call C0 hK hNW LIM (k := 0) (mm := 39) (i2 := 1) (av := [vi (xs (i + 1))]) (r := []) (op_best hI) (by decide) (lw_inst (by decide) rfl) (lw_sel (by decide) rfl) rfl (by decide) rfl rfl (ROKi [xs (i + 1)]) (lwt2 (i := 129) rfl) dL_law_545 hl.1 (Nat.le_of_ble_eq_true rfl) hW (fun v x1 H1 locs1 hq hW1 => ?_)
  obtain ⟨r0, rfl, hq2⟩ := hq
  refine lv_aload_n hx hb dL_law_548 rfl (lv_at hl 2 rfl) ?_
  refine law_arg C0 hL (k := 1) (by omega) hW1.2.2 hl (by decide +kernel) dL_law_549 dL_law_550 dL_law_551 dL_law_552 dL_law_553 ?_
  refine law_call C0 hK hNW LIM (k := 13) (mm := 117) (i2 := 1) (av := [vi (xs (i + 1))]) (r := [vi r0]) hq2 (by decide) (lw_inst (by decide) rfl) (lw_sel (by decide) rfl) rfl (by decide) rfl rfl (ROKi [xs (i + 1)]) (lwt4 (i := 41) rfl) dL_law_554 hl.1 (Nat.le_of_ble_eq_true rfl) hW1 (fun v x2 H2 locs2 hq hW2 => ?_)
  obtain ⟨rfl, hI2⟩ := hq
  exact lv_icmp_eq (tgt := 1144) hx hb dL_law_557 (by decide) (fun _ => kk x2 H2 locs2 hI2 hW2) (fun q => absurd rfl q)
set_option maxRecDepth 100000 in
theorem law_c12 {p : Program} {l : Launch} {e : Env} {s : State} {m : MethodId} {below : List Frame} {meth : Method} {c : Code} {b L : Nat} {xs : Nat → Int32} (C0 : lw_At p s m meth c b L xs) (hL : L ≤ 3072) {D : va_G} {ad : Nat → Nat → Nat} {cI cT cS : ClassId} (hK : va_K D vwCl (Tys cI cT cS) s) (hNW : NWs s) {i : Nat} (hi : i + 6 ≤ L) {x : Mem} {H : Heap} {locs : List Loc} {ls : Array Slot} (hI : Inv x) (hW : WO D ad cI cT cS (AL s) s.heap x H locs) (hl : lv_has ls 4 (LV b ad i)) (kk : ∀ (x1 : Mem) (H1 : Heap) (locs1 : List Loc), Inv x1 → WO D ad cI cT cS (AL s) s.heap x1 H1 locs1 → LG p l e s m b below meth c H1 locs1 (F0 m 1144 ls [])) : LG p l e s m b below meth c H locs (F0 m 562 ls []) := by
  obtain ⟨hx, hb, hr, hml, hown, hts, hX, hbl, hlocks, hgv⟩ := id C0
  refine lv_aload_n hx hb dL_law_562 rfl (lv_at hl 1 rfl) ?_
  refine law_arg C0 hL (k := 1) (by omega) hW.2.2 hl (by decide +kernel) dL_law_563 dL_law_564 dL_law_565 dL_law_566 dL_law_567 ?_
  refine law_call C0 hK hNW LIM (k := 0) (mm := 40) (i2 := 1) (av := [vi (xs (i + 1))]) (r := []) (op_enough hI) (by decide) (lw_inst (by decide) rfl) (lw_sel (by decide) rfl) rfl (by decide) rfl rfl (ROKi [xs (i + 1)]) (lwt2 (i := 138) rfl) dL_law_568 hl.1 (Nat.le_of_ble_eq_true rfl) hW (fun v x1 H1 locs1 hq hW1 => ?_)
  obtain ⟨r0, rfl, hq2⟩ := hq
  refine lv_aload_n hx hb dL_law_571 rfl (lv_at hl 2 rfl) ?_
  refine law_arg C0 hL (k := 1) (by omega) hW1.2.2 hl (by decide +kernel) dL_law_572 dL_law_573 dL_law_574 dL_law_575 dL_law_576 ?_
  refine law_call C0 hK hNW LIM (k := 13) (mm := 119) (i2 := 1) (av := [vi (xs (i + 1))]) (r := [vi r0]) hq2 (by decide) (lw_inst (by decide) rfl) (lw_sel (by decide) rfl) rfl (by decide) rfl rfl (ROKi [xs (i + 1)]) (lwt4 (i := 49) rfl) dL_law_577 hl.1 (Nat.le_of_ble_eq_true rfl) hW1 (fun v x2 H2 locs2 hq hW2 => ?_)
  obtain ⟨rfl, hI2⟩ := hq
  exact lv_icmp_eq (tgt := 1144) hx hb dL_law_580 (by decide) (fun _ => kk x2 H2 locs2 hI2 hW2) (fun q => absurd rfl q)
set_option maxRecDepth 100000 in
theorem law_c13 {p : Program} {l : Launch} {e : Env} {s : State} {m : MethodId} {below : List Frame} {meth : Method} {c : Code} {b L : Nat} {xs : Nat → Int32} (C0 : lw_At p s m meth c b L xs) (hL : L ≤ 3072) {D : va_G} {ad : Nat → Nat → Nat} {cI cT cS : ClassId} (hK : va_K D vwCl (Tys cI cT cS) s) (hNW : NWs s) {i : Nat} (hi : i + 6 ≤ L) {x : Mem} {H : Heap} {locs : List Loc} {ls : Array Slot} (hI : Inv x) (hW : WO D ad cI cT cS (AL s) s.heap x H locs) (hl : lv_has ls 4 (LV b ad i)) (kk : ∀ (x1 : Mem) (H1 : Heap) (locs1 : List Loc), Inv x1 → WO D ad cI cT cS (AL s) s.heap x1 H1 locs1 → LG p l e s m b below meth c H1 locs1 (F0 m 1144 ls [])) : LG p l e s m b below meth c H locs (F0 m 585 ls []) := by
  obtain ⟨hx, hb, hr, hml, hown, hts, hX, hbl, hlocks, hgv⟩ := id C0
  refine lv_aload_n hx hb dL_law_585 rfl (lv_at hl 1 rfl) ?_
  refine law_arg C0 hL (k := 1) (by omega) hW.2.2 hl (by decide +kernel) dL_law_586 dL_law_587 dL_law_588 dL_law_589 dL_law_590 ?_
  refine law_call C0 hK hNW LIM (k := 0) (mm := 41) (i2 := 1) (av := [vi (xs (i + 1))]) (r := []) (op_tea hI) (by decide) (lw_inst (by decide) rfl) (lw_sel (by decide) rfl) rfl (by decide) rfl rfl (ROKi [xs (i + 1)]) (lwt2 (i := 146) rfl) dL_law_591 hl.1 (Nat.le_of_ble_eq_true rfl) hW (fun v x1 H1 locs1 hq hW1 => ?_)
  obtain ⟨r0, rfl, hq2⟩ := hq
  refine lv_aload_n hx hb dL_law_594 rfl (lv_at hl 2 rfl) ?_
  refine law_arg C0 hL (k := 1) (by omega) hW1.2.2 hl (by decide +kernel) dL_law_595 dL_law_596 dL_law_597 dL_law_598 dL_law_599 ?_
  refine law_call C0 hK hNW LIM (k := 13) (mm := 120) (i2 := 1) (av := [vi (xs (i + 1))]) (r := [vi r0]) hq2 (by decide) (lw_inst (by decide) rfl) (lw_sel (by decide) rfl) rfl (by decide) rfl rfl (ROKi [xs (i + 1)]) (lwt4 (i := 57) rfl) dL_law_600 hl.1 (Nat.le_of_ble_eq_true rfl) hW1 (fun v x2 H2 locs2 hq hW2 => ?_)
  obtain ⟨rfl, hI2⟩ := hq
  exact lv_icmp_eq (tgt := 1144) hx hb dL_law_603 (by decide) (fun _ => kk x2 H2 locs2 hI2 hW2) (fun q => absurd rfl q)
set_option maxRecDepth 100000 in
theorem law_c14 {p : Program} {l : Launch} {e : Env} {s : State} {m : MethodId} {below : List Frame} {meth : Method} {c : Code} {b L : Nat} {xs : Nat → Int32} (C0 : lw_At p s m meth c b L xs) (hL : L ≤ 3072) {D : va_G} {ad : Nat → Nat → Nat} {cI cT cS : ClassId} (hK : va_K D vwCl (Tys cI cT cS) s) (hNW : NWs s) {i : Nat} (hi : i + 6 ≤ L) {x : Mem} {H : Heap} {locs : List Loc} {ls : Array Slot} (hI : Inv x) (hW : WO D ad cI cT cS (AL s) s.heap x H locs) (hl : lv_has ls 4 (LV b ad i)) (kk : ∀ (x1 : Mem) (H1 : Heap) (locs1 : List Loc), Inv x1 → WO D ad cI cT cS (AL s) s.heap x1 H1 locs1 → LG p l e s m b below meth c H1 locs1 (F0 m 1144 ls [])) : LG p l e s m b below meth c H locs (F0 m 608 ls []) := by
  obtain ⟨hx, hb, hr, hml, hown, hts, hX, hbl, hlocks, hgv⟩ := id C0
  refine lv_aload_n hx hb dL_law_608 rfl (lv_at hl 1 rfl) ?_
  refine law_arg C0 hL (k := 1) (by omega) hW.2.2 hl (by decide +kernel) dL_law_609 dL_law_610 dL_law_611 dL_law_612 dL_law_613 ?_
  refine law_call C0 hK hNW LIM (k := 0) (mm := 42) (i2 := 1) (av := [vi (xs (i + 1))]) (r := []) (op_swap hI) (by decide) (lw_inst (by decide) rfl) (lw_sel (by decide) rfl) rfl (by decide) rfl rfl (ROKi [xs (i + 1)]) (lwt2 (i := 150) rfl) dL_law_614 hl.1 (Nat.le_of_ble_eq_true rfl) hW (fun v x1 H1 locs1 hq hW1 => ?_)
  obtain ⟨r0, rfl, hq2⟩ := hq
  refine lv_aload_n hx hb dL_law_617 rfl (lv_at hl 2 rfl) ?_
  refine law_arg C0 hL (k := 1) (by omega) hW1.2.2 hl (by decide +kernel) dL_law_618 dL_law_619 dL_law_620 dL_law_621 dL_law_622 ?_
  refine law_call C0 hK hNW LIM (k := 13) (mm := 122) (i2 := 1) (av := [vi (xs (i + 1))]) (r := [vi r0]) hq2 (by decide) (lw_inst (by decide) rfl) (lw_sel (by decide) rfl) rfl (by decide) rfl rfl (ROKi [xs (i + 1)]) (lwt4 (i := 61) rfl) dL_law_623 hl.1 (Nat.le_of_ble_eq_true rfl) hW1 (fun v x2 H2 locs2 hq hW2 => ?_)
  obtain ⟨rfl, hI2⟩ := hq
  exact lv_icmp_eq (tgt := 1144) hx hb dL_law_626 (by decide) (fun _ => kk x2 H2 locs2 hI2 hW2) (fun q => absurd rfl q)
set_option maxRecDepth 100000 in
theorem law_c15 {p : Program} {l : Launch} {e : Env} {s : State} {m : MethodId} {below : List Frame} {meth : Method} {c : Code} {b L : Nat} {xs : Nat → Int32} (C0 : lw_At p s m meth c b L xs) (hL : L ≤ 3072) {D : va_G} {ad : Nat → Nat → Nat} {cI cT cS : ClassId} (hK : va_K D vwCl (Tys cI cT cS) s) (hNW : NWs s) {i : Nat} (hi : i + 6 ≤ L) {x : Mem} {H : Heap} {locs : List Loc} {ls : Array Slot} (hI : Inv x) (hW : WO D ad cI cT cS (AL s) s.heap x H locs) (hl : lv_has ls 4 (LV b ad i)) (kk : ∀ (x1 : Mem) (H1 : Heap) (locs1 : List Loc), Inv x1 → WO D ad cI cT cS (AL s) s.heap x1 H1 locs1 → LG p l e s m b below meth c H1 locs1 (F0 m 1144 ls [])) : LG p l e s m b below meth c H locs (F0 m 631 ls []) := by
  obtain ⟨hx, hb, hr, hml, hown, hts, hX, hbl, hlocks, hgv⟩ := id C0
  refine lv_aload_n hx hb dL_law_631 rfl (lv_at hl 1 rfl) ?_
  refine law_arg C0 hL (k := 1) (by omega) hW.2.2 hl (by decide +kernel) dL_law_632 dL_law_633 dL_law_634 dL_law_635 dL_law_636 ?_
  refine law_arg C0 hL (k := 2) (by omega) hW.2.2 hl (by decide +kernel) dL_law_637 dL_law_638 dL_law_639 dL_law_640 dL_law_641 ?_
  refine law_arg C0 hL (k := 3) (by omega) hW.2.2 hl (by decide +kernel) dL_law_642 dL_law_643 dL_law_644 dL_law_645 dL_law_646 ?_
  refine law_call C0 hK hNW LIM (k := 0) (mm := 43) (i2 := 3) (av := [vi (xs (i + 1)), vi (xs (i + 2)), vi (xs (i + 3))]) (r := []) (op_reading hI) (by decide) (lw_inst (by decide) rfl) (lw_sel (by decide) rfl) rfl (by decide) rfl rfl (ROKi [xs (i + 1), xs (i + 2), xs (i + 3)]) (lwt2 (i := 162) rfl) dL_law_647 hl.1 (Nat.le_of_ble_eq_true rfl) hW (fun v x1 H1 locs1 hq hW1 => ?_)
  obtain ⟨r0, rfl, hq2⟩ := hq
  refine lv_aload_n hx hb dL_law_650 rfl (lv_at hl 2 rfl) ?_
  refine law_arg C0 hL (k := 1) (by omega) hW1.2.2 hl (by decide +kernel) dL_law_651 dL_law_652 dL_law_653 dL_law_654 dL_law_655 ?_
  refine law_arg C0 hL (k := 2) (by omega) hW1.2.2 hl (by decide +kernel) dL_law_656 dL_law_657 dL_law_658 dL_law_659 dL_law_660 ?_
  refine law_arg C0 hL (k := 3) (by omega) hW1.2.2 hl (by decide +kernel) dL_law_661 dL_law_662 dL_law_663 dL_law_664 dL_law_665 ?_
  refine law_call C0 hK hNW LIM (k := 13) (mm := 123) (i2 := 3) (av := [vi (xs (i + 1)), vi (xs (i + 2)), vi (xs (i + 3))]) (r := [vi r0]) hq2 (by decide) (lw_inst (by decide) rfl) (lw_sel (by decide) rfl) rfl (by decide) rfl rfl (ROKi [xs (i + 1), xs (i + 2), xs (i + 3)]) (lwt4 (i := 69) rfl) dL_law_666 hl.1 (Nat.le_of_ble_eq_true rfl) hW1 (fun v x2 H2 locs2 hq hW2 => ?_)
  obtain ⟨rfl, hI2⟩ := hq
  exact lv_icmp_eq (tgt := 1144) hx hb dL_law_669 (by decide) (fun _ => kk x2 H2 locs2 hI2 hW2) (fun q => absurd rfl q)
