section LWD
variable {p : Program} {l : Launch} {e : Env} {s : State} {m : MethodId} {below : List Frame} {meth : Method} {c : Code} {H : Heap} {cells slots : Nat} {b L k pc : Nat} {xs : Nat → Int32} {D : va_G} {Y : Nat → ClassId} {ls : Array Slot} {rest : List Value} {a : AS} {ad : OA} {t : OS} {K : Nat → Option (CA × CS)} {ma : MA} {S : MS} {ou : Nat} {f : Nat → Int64} {Q : State → Prop}
set_option maxHeartbeats 4000000 in
set_option maxRecDepth 100000 in
theorem lw_told (C : LC p s m c b L xs D Y) (hN : LN p l e s m below meth c b k D Y) (hk : 4 * k + 4 ≤ L) (hS0 : LSt D Y s H a ad t K ma S ou f) (hl : lv_has ls 7 (lLv b k ad ma ou)) : W p l e room_1 s m #[Value.ref b] below meth c H [] (lCe k) (lSl k t K) (lw_Z below #[Value.ref b] s) (F0 m 360 ls []) := by
  have C0 := C
  obtain ⟨hx, hb, hml, hown, hts, hK, hNe, hX, hbl, hL⟩ := C0
  obtain ⟨hR, hP, hD, hS⟩ := hS0
  have hce : lCe k + 30 ≤ room_1.cells := Nat.le_trans (m := 600000) (by unfold lCe; omega) (by decide)
  have hsl : lSl k t K + 100000 ≤ room_1.slots := Nat.le_trans (m := 7000000) (by have := hR.psi_le; unfold lSl; omega) (by decide)
  have hA : ∀ q, s.heap.size ≤ q → lA s q := fun _ h => h
  refine lv_aload_n hx hb dL_law_360 rfl (lv_at hl 2 rfl) ?_
  refine lw_a1 C hk hS hl dL_law_361 dL_law_362 dL_law_364 dL_law_365 dL_law_366 ?_
  refine lw_a2 C hk hS hl dL_law_367 dL_law_368 dL_law_370 dL_law_371 dL_law_372 ?_
  refine rcI (As := [.int (lX xs k 1), .int (lX xs k 2)]) (rest := []) ⟨hx, hb, hml, hown, hts⟩ (c_X2_told l D Y ad t (lX xs k 1) (lX xs k 2) hR.ok) (cwV 2 hts gL_law_X2_told rfl rfl rfl hdX2_told ⟨(Nat.le_of_ble_eq_true rfl), (Nat.le_of_ble_eq_true rfl)⟩) (oPR hP) hK 0 3 rfl rfl rfl hl.1 rfl (Nat.le_of_ble_eq_true rfl) dL_law_373 ⟨by show _ ≤ room_1.cells; omega, by show _ ≤ room_1.slots; omega⟩ (fun r9 hr9 => ?_)
  refine lv_aload_n hx hb dL_law_376 rfl (lv_at hl 3 rfl) ?_
  refine lw_a1 C hk hS hl dL_law_377 dL_law_378 dL_law_380 dL_law_381 dL_law_382 ?_
  refine lw_a2 C hk hS hl dL_law_383 dL_law_384 dL_law_386 dL_law_387 dL_law_388 ?_
  refine wcI (wN := fun u : MS => lwW Y ad t K ma u ou f) (As := [.int (lX xs k 1), .int (lX xs k 2)]) (rest := [.int r9]) ⟨hx, hb, hml, hown, hts⟩ (c_X3_told l D Y ma S _ (lX xs k 1) (lX xs k 2) hR.mv) (cwV 2 hts gL_law_X3_told rfl rfl rfl hdX3_told ⟨(Nat.le_of_ble_eq_true rfl), (Nat.le_of_ble_eq_true rfl)⟩) (oPR (lM ⟨hP, hD⟩).1) (va_D_left (lM ⟨hP, hD⟩).2) hK hS hA 0 4 rfl rfl rfl hl.1 rfl (Nat.le_of_ble_eq_true rfl) dL_law_389 ⟨by show _ ≤ room_1.cells; omega, by show _ ≤ room_1.slots; omega⟩ (lFm hP hD hS hA) (fun r8 u8 H locs hu hP hD hS => ?_)
  refine va_forget hS.2.2 ?_
  replace hS := nS hS
  obtain ⟨hu1, rfl⟩ := hu
  refine lv_icmp_eq (tgt := 645) hx hb dL_law_392 (by decide) (fun _ => ?_) (fun hne => absurd (hr9.trans ((hR.told _ _).trans hu1.symm)) hne)
  exact l645 C hN ⟨hR.thr 0, hP, hD, hS⟩ hl (by unfold lCe; omega) (by unfold lSl; omega)
set_option maxHeartbeats 4000000 in
set_option maxRecDepth 100000 in
theorem lw_same (C : LC p s m c b L xs D Y) (hN : LN p l e s m below meth c b k D Y) (hk : 4 * k + 4 ≤ L) (hS0 : LSt D Y s H a ad t K ma S ou f) (hl : lv_has ls 7 (lLv b k ad ma ou)) : W p l e room_1 s m #[Value.ref b] below meth c H [] (lCe k) (lSl k t K) (lw_Z below #[Value.ref b] s) (F0 m 397 ls []) := by
  have C0 := C
  obtain ⟨hx, hb, hml, hown, hts, hK, hNe, hX, hbl, hL⟩ := C0
  obtain ⟨hR, hP, hD, hS⟩ := hS0
  have hce : lCe k + 30 ≤ room_1.cells := Nat.le_trans (m := 600000) (by unfold lCe; omega) (by decide)
  have hsl : lSl k t K + 100000 ≤ room_1.slots := Nat.le_trans (m := 7000000) (by have := hR.psi_le; unfold lSl; omega) (by decide)
  have hA : ∀ q, s.heap.size ≤ q → lA s q := fun _ h => h
  refine lv_aload_n hx hb dL_law_397 rfl (lv_at hl 2 rfl) ?_
  refine lw_a1 C hk hS hl dL_law_398 dL_law_399 dL_law_401 dL_law_402 dL_law_403 ?_
  refine lw_a2 C hk hS hl dL_law_404 dL_law_405 dL_law_407 dL_law_408 dL_law_409 ?_
  refine rcI (As := [.int (lX xs k 1), .int (lX xs k 2)]) (rest := []) ⟨hx, hb, hml, hown, hts⟩ (c_X2_same l D Y ad t (lX xs k 1) (lX xs k 2) hR.ok) (cwV 2 hts gL_law_X2_same rfl rfl rfl hdX2_same ⟨(Nat.le_of_ble_eq_true rfl), (Nat.le_of_ble_eq_true rfl)⟩) (oPR hP) hK 0 3 rfl rfl rfl hl.1 rfl (Nat.le_of_ble_eq_true rfl) dL_law_410 ⟨by show _ ≤ room_1.cells; omega, by show _ ≤ room_1.slots; omega⟩ (fun r9 hr9 => ?_)
  refine lv_aload_n hx hb dL_law_413 rfl (lv_at hl 3 rfl) ?_
  refine lw_a1 C hk hS hl dL_law_414 dL_law_415 dL_law_417 dL_law_418 dL_law_419 ?_
  refine lw_a2 C hk hS hl dL_law_420 dL_law_421 dL_law_423 dL_law_424 dL_law_425 ?_
  refine wcI (wN := fun u : MS => lwW Y ad t K ma u ou f) (As := [.int (lX xs k 1), .int (lX xs k 2)]) (rest := [.int r9]) ⟨hx, hb, hml, hown, hts⟩ (c_X3_same l D Y ma S _ (lX xs k 1) (lX xs k 2) hR.mv) (cwV 2 hts gL_law_X3_same rfl rfl rfl hdX3_same ⟨(Nat.le_of_ble_eq_true rfl), (Nat.le_of_ble_eq_true rfl)⟩) (oPR (lM ⟨hP, hD⟩).1) (va_D_left (lM ⟨hP, hD⟩).2) hK hS hA 0 4 rfl rfl rfl hl.1 rfl (Nat.le_of_ble_eq_true rfl) dL_law_426 ⟨by show _ ≤ room_1.cells; omega, by show _ ≤ room_1.slots; omega⟩ (lFm hP hD hS hA) (fun r8 u8 H locs hu hP hD hS => ?_)
  refine va_forget hS.2.2 ?_
  replace hS := nS hS
  obtain ⟨hu1, rfl⟩ := hu
  refine lv_icmp_eq (tgt := 645) hx hb dL_law_429 (by decide) (fun _ => ?_) (fun hne => absurd (hr9.trans ((congrArg bI (hR.same _ _)).trans hu1.symm)) hne)
  exact l645 C hN ⟨hR.thr 0, hP, hD, hS⟩ hl (by unfold lCe; omega) (by unfold lSl; omega)
set_option maxHeartbeats 4000000 in
set_option maxRecDepth 100000 in
theorem lw_compare (C : LC p s m c b L xs D Y) (hN : LN p l e s m below meth c b k D Y) (hk : 4 * k + 4 ≤ L) (hS0 : LSt D Y s H a ad t K ma S ou f) (hl : lv_has ls 7 (lLv b k ad ma ou)) : W p l e room_1 s m #[Value.ref b] below meth c H [] (lCe k) (lSl k t K) (lw_Z below #[Value.ref b] s) (F0 m 434 ls []) := by
  have C0 := C
  obtain ⟨hx, hb, hml, hown, hts, hK, hNe, hX, hbl, hL⟩ := C0
  obtain ⟨hR, hP, hD, hS⟩ := hS0
  have hce : lCe k + 30 ≤ room_1.cells := Nat.le_trans (m := 600000) (by unfold lCe; omega) (by decide)
  have hsl : lSl k t K + 100000 ≤ room_1.slots := Nat.le_trans (m := 7000000) (by have := hR.psi_le; unfold lSl; omega) (by decide)
  have hA : ∀ q, s.heap.size ≤ q → lA s q := fun _ h => h
  refine lv_aload_n hx hb dL_law_434 rfl (lv_at hl 2 rfl) ?_
  refine lw_a1 C hk hS hl dL_law_435 dL_law_436 dL_law_438 dL_law_439 dL_law_440 ?_
  refine lw_a2 C hk hS hl dL_law_441 dL_law_442 dL_law_444 dL_law_445 dL_law_446 ?_
  refine rcI (As := [.int (lX xs k 1), .int (lX xs k 2)]) (rest := []) ⟨hx, hb, hml, hown, hts⟩ (c_X2_compare l D Y ad t (lX xs k 1) (lX xs k 2) hR.ok) (cwV 2 hts gL_law_X2_compare rfl rfl rfl hdX2_compare ⟨(Nat.le_of_ble_eq_true rfl), (Nat.le_of_ble_eq_true rfl)⟩) (oPR hP) hK 0 3 rfl rfl rfl hl.1 rfl (Nat.le_of_ble_eq_true rfl) dL_law_447 ⟨by show _ ≤ room_1.cells; omega, by show _ ≤ room_1.slots; omega⟩ (fun r9 hr9 => ?_)
  refine lv_aload_n hx hb dL_law_450 rfl (lv_at hl 3 rfl) ?_
  refine lw_a1 C hk hS hl dL_law_451 dL_law_452 dL_law_454 dL_law_455 dL_law_456 ?_
  refine lw_a2 C hk hS hl dL_law_457 dL_law_458 dL_law_460 dL_law_461 dL_law_462 ?_
  refine wcI (wN := fun u : MS => lwW Y ad t K ma u ou f) (As := [.int (lX xs k 1), .int (lX xs k 2)]) (rest := [.int r9]) ⟨hx, hb, hml, hown, hts⟩ (c_X3_compare l D Y ma S _ (lX xs k 1) (lX xs k 2) hR.mv) (cwV 2 hts gL_law_X3_compare rfl rfl rfl hdX3_compare ⟨(Nat.le_of_ble_eq_true rfl), (Nat.le_of_ble_eq_true rfl)⟩) (oPR (lM ⟨hP, hD⟩).1) (va_D_left (lM ⟨hP, hD⟩).2) hK hS hA 0 4 rfl rfl rfl hl.1 rfl (Nat.le_of_ble_eq_true rfl) dL_law_463 ⟨by show _ ≤ room_1.cells; omega, by show _ ≤ room_1.slots; omega⟩ (lFm hP hD hS hA) (fun r8 u8 H locs hu hP hD hS => ?_)
  refine va_forget hS.2.2 ?_
  replace hS := nS hS
  obtain ⟨hu1, rfl⟩ := hu
  refine lv_icmp_eq (tgt := 645) hx hb dL_law_466 (by decide) (fun _ => ?_) (fun hne => absurd (hr9.trans ((hR.compare _ _).trans hu1.symm)) hne)
  exact l645 C hN ⟨hR.thr 0, hP, hD, hS⟩ hl (by unfold lCe; omega) (by unfold lSl; omega)
set_option maxHeartbeats 4000000 in
set_option maxRecDepth 100000 in
theorem lw_length (C : LC p s m c b L xs D Y) (hN : LN p l e s m below meth c b k D Y) (hk : 4 * k + 4 ≤ L) (hS0 : LSt D Y s H a ad t K ma S ou f) (hl : lv_has ls 7 (lLv b k ad ma ou)) : W p l e room_1 s m #[Value.ref b] below meth c H [] (lCe k) (lSl k t K) (lw_Z below #[Value.ref b] s) (F0 m 471 ls []) := by
  have C0 := C
  obtain ⟨hx, hb, hml, hown, hts, hK, hNe, hX, hbl, hL⟩ := C0
  obtain ⟨hR, hP, hD, hS⟩ := hS0
  have hce : lCe k + 30 ≤ room_1.cells := Nat.le_trans (m := 600000) (by unfold lCe; omega) (by decide)
  have hsl : lSl k t K + 100000 ≤ room_1.slots := Nat.le_trans (m := 7000000) (by have := hR.psi_le; unfold lSl; omega) (by decide)
  have hA : ∀ q, s.heap.size ≤ q → lA s q := fun _ h => h
  refine lv_aload_n hx hb dL_law_471 rfl (lv_at hl 2 rfl) ?_
  refine lw_a1 C hk hS hl dL_law_472 dL_law_473 dL_law_475 dL_law_476 dL_law_477 ?_
  refine rcI (As := [.int (lX xs k 1)]) (rest := []) ⟨hx, hb, hml, hown, hts⟩ (c_X2_length l D Y ad t (lX xs k 1) hR.ok) (cwV 1 hts gL_law_X2_length rfl rfl rfl hdX2_length ⟨(Nat.le_of_ble_eq_true rfl), (Nat.le_of_ble_eq_true rfl)⟩) (oPR hP) hK 0 3 rfl rfl rfl hl.1 rfl (Nat.le_of_ble_eq_true rfl) dL_law_478 ⟨by show _ ≤ room_1.cells; omega, by show _ ≤ room_1.slots; omega⟩ (fun r9 hr9 => ?_)
  refine lv_aload_n hx hb dL_law_481 rfl (lv_at hl 3 rfl) ?_
  refine lw_a1 C hk hS hl dL_law_482 dL_law_483 dL_law_485 dL_law_486 dL_law_487 ?_
  refine wcI (wN := fun u : MS => lwW Y ad t K ma u ou f) (As := [.int (lX xs k 1)]) (rest := [.int r9]) ⟨hx, hb, hml, hown, hts⟩ (c_X3_length l D Y ma S _ (lX xs k 1) hR.mv) (cwV 1 hts gL_law_X3_length rfl rfl rfl hdX3_length ⟨(Nat.le_of_ble_eq_true rfl), (Nat.le_of_ble_eq_true rfl)⟩) (oPR (lM ⟨hP, hD⟩).1) (va_D_left (lM ⟨hP, hD⟩).2) hK hS hA 0 4 rfl rfl rfl hl.1 rfl (Nat.le_of_ble_eq_true rfl) dL_law_488 ⟨by show _ ≤ room_1.cells; omega, by show _ ≤ room_1.slots; omega⟩ (lFm hP hD hS hA) (fun r8 u8 H locs hu hP hD hS => ?_)
  refine va_forget hS.2.2 ?_
  replace hS := nS hS
  obtain ⟨hu1, rfl⟩ := hu
  refine lv_icmp_eq (tgt := 645) hx hb dL_law_491 (by decide) (fun _ => ?_) (fun hne => absurd (hr9.trans ((hR.len_ _).trans hu1.symm)) hne)
  exact l645 C hN ⟨hR.thr 0, hP, hD, hS⟩ hl (by unfold lCe; omega) (by unfold lSl; omega)
set_option maxHeartbeats 4000000 in
set_option maxRecDepth 100000 in
theorem lw_look (C : LC p s m c b L xs D Y) (hN : LN p l e s m below meth c b k D Y) (hk : 4 * k + 4 ≤ L) (hS0 : LSt D Y s H a ad t K ma S ou f) (hl : lv_has ls 7 (lLv b k ad ma ou)) : W p l e room_1 s m #[Value.ref b] below meth c H [] (lCe k) (lSl k t K) (lw_Z below #[Value.ref b] s) (F0 m 545 ls []) := by
  have C0 := C
  obtain ⟨hx, hb, hml, hown, hts, hK, hNe, hX, hbl, hL⟩ := C0
  obtain ⟨hR, hP, hD, hS⟩ := hS0
  have hce : lCe k + 30 ≤ room_1.cells := Nat.le_trans (m := 600000) (by unfold lCe; omega) (by decide)
  have hsl : lSl k t K + 100000 ≤ room_1.slots := Nat.le_trans (m := 7000000) (by have := hR.psi_le; unfold lSl; omega) (by decide)
  have hA : ∀ q, s.heap.size ≤ q → lA s q := fun _ h => h
  refine lv_aload_n hx hb dL_law_545 rfl (lv_at hl 2 rfl) ?_
  refine lw_a1 C hk hS hl dL_law_546 dL_law_547 dL_law_549 dL_law_550 dL_law_551 ?_
  refine lw_a2 C hk hS hl dL_law_552 dL_law_553 dL_law_555 dL_law_556 dL_law_557 ?_
  refine rcI (As := [.int (lX xs k 1), .int (lX xs k 2)]) (rest := []) ⟨hx, hb, hml, hown, hts⟩ (c_X2_look l D Y ad t (lX xs k 1) (lX xs k 2) hR.ok) (cwV 2 hts gL_law_X2_look rfl rfl rfl hdX2_look ⟨(Nat.le_of_ble_eq_true rfl), (Nat.le_of_ble_eq_true rfl)⟩) (oPR hP) hK 0 3 rfl rfl rfl hl.1 rfl (Nat.le_of_ble_eq_true rfl) dL_law_558 ⟨by show _ ≤ room_1.cells; omega, by show _ ≤ room_1.slots; omega⟩ (fun r9 hr9 => ?_)
  refine lv_aload_n hx hb dL_law_561 rfl (lv_at hl 3 rfl) ?_
  refine lw_a1 C hk hS hl dL_law_562 dL_law_563 dL_law_565 dL_law_566 dL_law_567 ?_
  refine lw_a2 C hk hS hl dL_law_568 dL_law_569 dL_law_571 dL_law_572 dL_law_573 ?_
  refine wcI (wN := fun u : MS => lwW Y ad t K ma u ou f) (As := [.int (lX xs k 1), .int (lX xs k 2)]) (rest := [.int r9]) ⟨hx, hb, hml, hown, hts⟩ (c_X3_look l D Y ma S _ (lX xs k 1) (lX xs k 2) hR.mv) (cwV 2 hts gL_law_X3_look rfl rfl rfl hdX3_look ⟨(Nat.le_of_ble_eq_true rfl), (Nat.le_of_ble_eq_true rfl)⟩) (oPR (lM ⟨hP, hD⟩).1) (va_D_left (lM ⟨hP, hD⟩).2) hK hS hA 0 4 rfl rfl rfl hl.1 rfl (Nat.le_of_ble_eq_true rfl) dL_law_574 ⟨by show _ ≤ room_1.cells; omega, by show _ ≤ room_1.slots; omega⟩ (lFm hP hD hS hA) (fun r8 u8 H locs hu hP hD hS => ?_)
  refine va_forget hS.2.2 ?_
  replace hS := nS hS
  obtain ⟨hu1, rfl⟩ := hu
  refine lv_icmp_eq (tgt := 645) hx hb dL_law_577 (by decide) (fun _ => ?_) (fun hne => absurd (hr9.trans ((hR.look _ _).trans hu1.symm)) hne)
  exact l645 C hN ⟨hR.thr 0, hP, hD, hS⟩ hl (by unfold lCe; omega) (by unfold lSl; omega)
set_option maxHeartbeats 4000000 in
set_option maxRecDepth 100000 in
theorem lw_kind (C : LC p s m c b L xs D Y) (hN : LN p l e s m below meth c b k D Y) (hk : 4 * k + 4 ≤ L) (hS0 : LSt D Y s H a ad t K ma S ou f) (hl : lv_has ls 7 (lLv b k ad ma ou)) : W p l e room_1 s m #[Value.ref b] below meth c H [] (lCe k) (lSl k t K) (lw_Z below #[Value.ref b] s) (F0 m 582 ls []) := by
  have C0 := C
  obtain ⟨hx, hb, hml, hown, hts, hK, hNe, hX, hbl, hL⟩ := C0
  obtain ⟨hR, hP, hD, hS⟩ := hS0
  have hce : lCe k + 30 ≤ room_1.cells := Nat.le_trans (m := 600000) (by unfold lCe; omega) (by decide)
  have hsl : lSl k t K + 100000 ≤ room_1.slots := Nat.le_trans (m := 7000000) (by have := hR.psi_le; unfold lSl; omega) (by decide)
  have hA : ∀ q, s.heap.size ≤ q → lA s q := fun _ h => h
  refine lv_aload_n hx hb dL_law_582 rfl (lv_at hl 2 rfl) ?_
  refine lw_a1 C hk hS hl dL_law_583 dL_law_584 dL_law_586 dL_law_587 dL_law_588 ?_
  refine rcI (As := [.int (lX xs k 1)]) (rest := []) ⟨hx, hb, hml, hown, hts⟩ (c_X2_kind l D Y ad t (lX xs k 1) hR.ok) (cwV 1 hts gL_law_X2_kind rfl rfl rfl hdX2_kind ⟨(Nat.le_of_ble_eq_true rfl), (Nat.le_of_ble_eq_true rfl)⟩) (oPR hP) hK 0 3 rfl rfl rfl hl.1 rfl (Nat.le_of_ble_eq_true rfl) dL_law_589 ⟨by show _ ≤ room_1.cells; omega, by show _ ≤ room_1.slots; omega⟩ (fun r9 hr9 => ?_)
  refine lv_aload_n hx hb dL_law_592 rfl (lv_at hl 3 rfl) ?_
  refine lw_a1 C hk hS hl dL_law_593 dL_law_594 dL_law_596 dL_law_597 dL_law_598 ?_
  refine wcI (wN := fun u : MS => lwW Y ad t K ma u ou f) (As := [.int (lX xs k 1)]) (rest := [.int r9]) ⟨hx, hb, hml, hown, hts⟩ (c_X3_kind l D Y ma S _ (lX xs k 1) hR.mv) (cwV 1 hts gL_law_X3_kind rfl rfl rfl hdX3_kind ⟨(Nat.le_of_ble_eq_true rfl), (Nat.le_of_ble_eq_true rfl)⟩) (oPR (lM ⟨hP, hD⟩).1) (va_D_left (lM ⟨hP, hD⟩).2) hK hS hA 0 4 rfl rfl rfl hl.1 rfl (Nat.le_of_ble_eq_true rfl) dL_law_599 ⟨by show _ ≤ room_1.cells; omega, by show _ ≤ room_1.slots; omega⟩ (lFm hP hD hS hA) (fun r8 u8 H locs hu hP hD hS => ?_)
  refine va_forget hS.2.2 ?_
  replace hS := nS hS
  obtain ⟨hu1, rfl⟩ := hu
  refine lv_icmp_eq (tgt := 645) hx hb dL_law_602 (by decide) (fun _ => ?_) (fun hne => absurd (hr9.trans ((hR.kind _).trans hu1.symm)) hne)
  exact l645 C hN ⟨hR.thr 0, hP, hD, hS⟩ hl (by unfold lCe; omega) (by unfold lSl; omega)
set_option maxHeartbeats 4000000 in
set_option maxRecDepth 100000 in
theorem lw_used (C : LC p s m c b L xs D Y) (hN : LN p l e s m below meth c b k D Y) (hk : 4 * k + 4 ≤ L) (hS0 : LSt D Y s H a ad t K ma S ou f) (hl : lv_has ls 7 (lLv b k ad ma ou)) : W p l e room_1 s m #[Value.ref b] below meth c H [] (lCe k) (lSl k t K) (lw_Z below #[Value.ref b] s) (F0 m 607 ls []) := by
  have C0 := C
  obtain ⟨hx, hb, hml, hown, hts, hK, hNe, hX, hbl, hL⟩ := C0
  obtain ⟨hR, hP, hD, hS⟩ := hS0
  have hce : lCe k + 30 ≤ room_1.cells := Nat.le_trans (m := 600000) (by unfold lCe; omega) (by decide)
  have hsl : lSl k t K + 100000 ≤ room_1.slots := Nat.le_trans (m := 7000000) (by have := hR.psi_le; unfold lSl; omega) (by decide)
  have hA : ∀ q, s.heap.size ≤ q → lA s q := fun _ h => h
  refine lv_aload_n hx hb dL_law_607 rfl (lv_at hl 2 rfl) ?_
  refine rcI (As := []) (rest := []) ⟨hx, hb, hml, hown, hts⟩ (c_X2_used l D Y ad t hR.ok) (cwV 0 hts gL_law_X2_used rfl rfl rfl hdX2_used ⟨(Nat.le_of_ble_eq_true rfl), (Nat.le_of_ble_eq_true rfl)⟩) (oPR hP) hK 0 3 rfl rfl rfl hl.1 rfl (Nat.le_of_ble_eq_true rfl) dL_law_608 ⟨by show _ ≤ room_1.cells; omega, by show _ ≤ room_1.slots; omega⟩ (fun r9 hr9 => ?_)
  refine lv_aload_n hx hb dL_law_611 rfl (lv_at hl 3 rfl) ?_
  refine wcI (wN := fun u : MS => lwW Y ad t K ma u ou f) (As := []) (rest := [.int r9]) ⟨hx, hb, hml, hown, hts⟩ (c_X3_used l D Y ma S _ hR.mv) (cwV 0 hts gL_law_X3_used rfl rfl rfl hdX3_used ⟨(Nat.le_of_ble_eq_true rfl), (Nat.le_of_ble_eq_true rfl)⟩) (oPR (lM ⟨hP, hD⟩).1) (va_D_left (lM ⟨hP, hD⟩).2) hK hS hA 0 4 rfl rfl rfl hl.1 rfl (Nat.le_of_ble_eq_true rfl) dL_law_612 ⟨by show _ ≤ room_1.cells; omega, by show _ ≤ room_1.slots; omega⟩ (lFm hP hD hS hA) (fun r8 u8 H locs hu hP hD hS => ?_)
  refine va_forget hS.2.2 ?_
  replace hS := nS hS
  obtain ⟨hu1, rfl⟩ := hu
  refine lv_icmp_eq (tgt := 645) hx hb dL_law_615 (by decide) (fun _ => ?_) (fun hne => absurd (hr9.trans ((hR.bc.2.2.2.2.2.2.2.1).trans hu1.symm)) hne)
  exact l645 C hN ⟨hR.thr 0, hP, hD, hS⟩ hl (by unfold lCe; omega) (by unfold lSl; omega)
end LWD
