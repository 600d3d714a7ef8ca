section LWE
variable {p : Program} {l : Launch} {e : Env} {s : State} {m : MethodId} {below : List Frame} {meth : Method} {c : Code} {H : Heap} {cells slots : Nat} {b L k pc : Nat} {xs : Nat → Int32} {D : va_G} {Y : Nat → ClassId} {ls : Array Slot} {rest : List Value} {a : AS} {ad : OA} {t : OS} {K : Nat → Option (CA × CS)} {ma : MA} {S : MS} {ou : Nat} {f : Nat → Int64} {Q : State → Prop}
theorem psi_set (t : OS) (K : Nat → Option (CA × CS)) (k : Nat) (i v : Int32) : psi (oSet t k i v) K = psi t K := by
  have e : ∀ j, rN (oR (oSet t k i v) j) = rN (oR t j) := fun j => by
    show rN (if j = k then rSet (oR t k) i v else t.1 j) = _
    split
    · next h => subst h; rfl
    · rfl
  unfold psi
  rw [e 5, e 11]
theorem psi_put (t : OS) (K : Nat → Option (CA × CS)) (x i v : Int32) : psi (gPut t x i v).2 K = psi t K := by
  unfold gPut
  repeat' split
  all_goals first | exact psi_set t K _ _ _ | exact rfl
theorem psi_attr (t : OS) (K : Nat → Option (CA × CS)) (x i v : Int32) : psi (gAttr t x i v).2 K = psi t K := by
  unfold gAttr gLower gGrowA
  repeat' split
  all_goals first | exact psi_set t K _ _ _ | exact rfl
theorem psi_sto (t : OS) (K : Nat → Option (CA × CS)) (v : Int32) : psi (oSetSto t v) K = psi t K := rfl
theorem psi_grow (t : OS) (K : Nat → Option (CA × CS)) (o : Int32) : psi (gGrow t o).2 K = psi t K := by
  unfold gGrow
  repeat' split
  · rfl
  · rfl
  · exact (psi_sto _ K _).trans (psi_set t K _ _ _)
theorem psi_addKey (t : OS) (K : Nat → Option (CA × CS)) (d k : Int32) : psi (gAddKey t d k).2 K = psi t K := by
  unfold gAddKey
  repeat' split
  · exact psi_grow t K _
  · exact (psi_set _ K _ _ _).trans ((psi_set _ K _ _ _).trans (psi_grow t K _))
  · exact (psi_set _ K _ _ _).trans (psi_set t K _ _ _)
theorem psi_entry (t : OS) (K : Nat → Option (CA × CS)) (x i v : Int32) : psi (gEntry t x i v).2 K = psi t K := by
  unfold gEntry
  repeat' split
  · rfl
  · rfl
  · rfl
  · rfl
  · rfl
  · rfl
  · exact psi_addKey t K _ _
  · exact (psi_set _ K _ _ _).trans (psi_addKey t K _ _)
  · exact psi_set t K _ _ _
theorem psi_partF (u : OS) (K : Nat → Option (CA × CS)) (m x : Int32) : psi (gPartF u m x) K = psi u K := by
  unfold gPartF
  exact (psi_set _ K _ _ _).trans ((psi_set _ K _ _ _).trans (psi_set u K _ _ _))
set_option maxHeartbeats 4000000 in
set_option maxRecDepth 100000 in
theorem lw_put (C : LC p s m c b L xs D Y) (hN : LN p l e s m below meth c b k D Y) (hk : 4 * k + 4 ≤ L) (hS0 : LSt D Y s H a ad t K ma S ou f) (hl : lv_has ls 7 (lLv b k ad ma ou)) : W p l e room_1 s m #[Value.ref b] below meth c H [] (lCe k) (lSl k t K) (lw_Z below #[Value.ref b] s) (F0 m 145 ls []) := by
  have C0 := C
  obtain ⟨hx, hb, hml, hown, hts, hK, hNe, hX, hbl, hL⟩ := C0
  obtain ⟨hR, hP, hD, hS⟩ := hS0
  have hce : lCe k + 30 ≤ room_1.cells := Nat.le_trans (m := 600000) (by unfold lCe; omega) (by decide)
  have hsl : lSl k t K + 100000 ≤ room_1.slots := Nat.le_trans (m := 7000000) (by have := hR.psi_le; unfold lSl; omega) (by decide)
  have hA : ∀ q, s.heap.size ≤ q → lA s q := fun _ h => h
  refine lv_aload_n hx hb dL_law_145 rfl (lv_at hl 2 rfl) ?_
  refine lw_a1 C hk hS hl dL_law_146 dL_law_147 dL_law_149 dL_law_150 dL_law_151 ?_
  refine lw_a2 C hk hS hl dL_law_152 dL_law_153 dL_law_155 dL_law_156 dL_law_157 ?_
  refine lw_a3 C hk hS hl dL_law_158 dL_law_159 dL_law_161 dL_law_162 dL_law_163 ?_
  refine wcI (wN := fun u : OS => lwW Y ad u K ma S ou f) (As := [.int (lX xs k 1), .int (lX xs k 2), .int (lX xs k 3)]) (rest := []) ⟨hx, hb, hml, hown, hts⟩ (c_X2_put l D Y ad t _ (lX xs k 1) (lX xs k 2) (lX xs k 3) hR.ok) (cwV 3 hts gL_law_X2_put rfl rfl rfl hdX2_put ⟨(Nat.le_of_ble_eq_true rfl), (Nat.le_of_ble_eq_true rfl)⟩) (oPR hP) (va_D_left hD) hK hS hA 0 3 rfl rfl rfl hl.1 rfl (Nat.le_of_ble_eq_true rfl) dL_law_164 ⟨by show _ ≤ room_1.cells; omega, by show _ ≤ room_1.slots; omega⟩ (lFo hP hD hS hA) (fun r9 v H locs hv hP hD hS => ?_)
  refine va_forget hS.2.2 ?_
  replace hS := nS hS
  obtain ⟨hv1, hv2⟩ := hv
  have hrel := hR.put (lX xs k 1) (lX xs k 2) (lX xs k 3)
  have hps : psi v K = psi t K := by rw [hv2]; exact psi_put t K _ _ _
  rw [← hv1, ← hv2] at hrel
  refine lv_aload_n hx hb dL_law_167 rfl (lv_at hl 3 rfl) ?_
  refine lw_a1 C hk hS hl dL_law_168 dL_law_169 dL_law_171 dL_law_172 dL_law_173 ?_
  refine lw_a2 C hk hS hl dL_law_174 dL_law_175 dL_law_177 dL_law_178 dL_law_179 ?_
  refine lw_a3 C hk hS hl dL_law_180 dL_law_181 dL_law_183 dL_law_184 dL_law_185 ?_
  refine wcI (wN := fun u : MS => lwW Y ad v K ma u ou f) (As := [.int (lX xs k 1), .int (lX xs k 2), .int (lX xs k 3)]) (rest := [.int r9]) ⟨hx, hb, hml, hown, hts⟩ (c_X3_put l D Y ma S _ (lX xs k 1) (lX xs k 2) (lX xs k 3) hR.mv) (cwV 3 hts gL_law_X3_put rfl rfl rfl hdX3_put ⟨(Nat.le_of_ble_eq_true rfl), (Nat.le_of_ble_eq_true rfl)⟩) (oPR (lM ⟨hP, hD⟩).1) (va_D_left (lM ⟨hP, hD⟩).2) hK hS hA 0 4 rfl rfl rfl hl.1 rfl (Nat.le_of_ble_eq_true rfl) dL_law_186 ⟨by show _ ≤ room_1.cells; omega, by show _ ≤ room_1.slots; omega⟩ (lFm hP hD hS hA) (fun r8 u8 H locs hu hP hD hS => ?_)
  refine va_forget hS.2.2 ?_
  replace hS := nS hS
  obtain ⟨hu1, hu2⟩ := hu
  rw [← hu1, ← hu2] at hrel
  refine lv_icmp_eq (tgt := 645) hx hb dL_law_189 (by decide) (fun _ => ?_) (fun hne => absurd hrel.1 hne)
  exact l645 C hN ⟨hrel.2, hP, hD, hS⟩ hl (by unfold lCe; omega) (by unfold lSl; rw [hps]; omega)
set_option maxHeartbeats 4000000 in
set_option maxRecDepth 100000 in
theorem lw_attribute (C : LC p s m c b L xs D Y) (hN : LN p l e s m below meth c b k D Y) (hk : 4 * k + 4 ≤ L) (hS0 : LSt D Y s H a ad t K ma S ou f) (hl : lv_has ls 7 (lLv b k ad ma ou)) : W p l e room_1 s m #[Value.ref b] below meth c H [] (lCe k) (lSl k t K) (lw_Z below #[Value.ref b] s) (F0 m 311 ls []) := by
  have C0 := C
  obtain ⟨hx, hb, hml, hown, hts, hK, hNe, hX, hbl, hL⟩ := C0
  obtain ⟨hR, hP, hD, hS⟩ := hS0
  have hce : lCe k + 30 ≤ room_1.cells := Nat.le_trans (m := 600000) (by unfold lCe; omega) (by decide)
  have hsl : lSl k t K + 100000 ≤ room_1.slots := Nat.le_trans (m := 7000000) (by have := hR.psi_le; unfold lSl; omega) (by decide)
  have hA : ∀ q, s.heap.size ≤ q → lA s q := fun _ h => h
  refine lv_aload_n hx hb dL_law_311 rfl (lv_at hl 2 rfl) ?_
  refine lw_a1 C hk hS hl dL_law_312 dL_law_313 dL_law_315 dL_law_316 dL_law_317 ?_
  refine lw_a2 C hk hS hl dL_law_318 dL_law_319 dL_law_321 dL_law_322 dL_law_323 ?_
  refine lw_a3 C hk hS hl dL_law_324 dL_law_325 dL_law_327 dL_law_328 dL_law_329 ?_
  refine wcI (wN := fun u : OS => lwW Y ad u K ma S ou f) (As := [.int (lX xs k 1), .int (lX xs k 2), .int (lX xs k 3)]) (rest := []) ⟨hx, hb, hml, hown, hts⟩ (c_X2_attribute l D Y ad t _ (lX xs k 1) (lX xs k 2) (lX xs k 3) hR.ok) (cwV 3 hts gL_law_X2_attribute rfl rfl rfl hdX2_attribute ⟨(Nat.le_of_ble_eq_true rfl), (Nat.le_of_ble_eq_true rfl)⟩) (oPR hP) (va_D_left hD) hK hS hA 0 3 rfl rfl rfl hl.1 rfl (Nat.le_of_ble_eq_true rfl) dL_law_330 ⟨by show _ ≤ room_1.cells; omega, by show _ ≤ room_1.slots; omega⟩ (lFo hP hD hS hA) (fun r9 v H locs hv hP hD hS => ?_)
  refine va_forget hS.2.2 ?_
  replace hS := nS hS
  obtain ⟨hv1, hv2⟩ := hv
  have hrel := hR.attr (lX xs k 1) (lX xs k 2) (lX xs k 3)
  have hps : psi v K = psi t K := by rw [hv2]; exact psi_attr t K _ _ _
  rw [← hv1, ← hv2] at hrel
  refine lv_aload_n hx hb dL_law_333 rfl (lv_at hl 3 rfl) ?_
  refine lw_a1 C hk hS hl dL_law_334 dL_law_335 dL_law_337 dL_law_338 dL_law_339 ?_
  refine lw_a2 C hk hS hl dL_law_340 dL_law_341 dL_law_343 dL_law_344 dL_law_345 ?_
  refine lw_a3 C hk hS hl dL_law_346 dL_law_347 dL_law_349 dL_law_350 dL_law_351 ?_
  refine wcI (wN := fun u : MS => lwW Y ad v K ma u ou f) (As := [.int (lX xs k 1), .int (lX xs k 2), .int (lX xs k 3)]) (rest := [.int r9]) ⟨hx, hb, hml, hown, hts⟩ (c_X3_attribute l D Y ma S _ (lX xs k 1) (lX xs k 2) (lX xs k 3) hR.mv) (cwV 3 hts gL_law_X3_attribute rfl rfl rfl hdX3_attribute ⟨(Nat.le_of_ble_eq_true rfl), (Nat.le_of_ble_eq_true rfl)⟩) (oPR (lM ⟨hP, hD⟩).1) (va_D_left (lM ⟨hP, hD⟩).2) hK hS hA 0 4 rfl rfl rfl hl.1 rfl (Nat.le_of_ble_eq_true rfl) dL_law_352 ⟨by show _ ≤ room_1.cells; omega, by show _ ≤ room_1.slots; omega⟩ (lFm hP hD hS hA) (fun r8 u8 H locs hu hP hD hS => ?_)
  refine va_forget hS.2.2 ?_
  replace hS := nS hS
  obtain ⟨hu1, hu2⟩ := hu
  rw [← hu1, ← hu2] at hrel
  refine lv_icmp_eq (tgt := 645) hx hb dL_law_355 (by decide) (fun _ => ?_) (fun hne => absurd hrel.1 hne)
  exact l645 C hN ⟨hrel.2, hP, hD, hS⟩ hl (by unfold lCe; omega) (by unfold lSl; rw [hps]; omega)
set_option maxHeartbeats 4000000 in
set_option maxRecDepth 100000 in
theorem lw_entry (C : LC p s m c b L xs D Y) (hN : LN p l e s m below meth c b k D Y) (hk : 4 * k + 4 ≤ L) (hS0 : LSt D Y s H a ad t K ma S ou f) (hl : lv_has ls 7 (lLv b k ad ma ou)) : W p l e room_1 s m #[Value.ref b] below meth c H [] (lCe k) (lSl k t K) (lw_Z below #[Value.ref b] s) (F0 m 496 ls []) := by
  have C0 := C
  obtain ⟨hx, hb, hml, hown, hts, hK, hNe, hX, hbl, hL⟩ := C0
  obtain ⟨hR, hP, hD, hS⟩ := hS0
  have hce : lCe k + 30 ≤ room_1.cells := Nat.le_trans (m := 600000) (by unfold lCe; omega) (by decide)
  have hsl : lSl k t K + 100000 ≤ room_1.slots := Nat.le_trans (m := 7000000) (by have := hR.psi_le; unfold lSl; omega) (by decide)
  have hA : ∀ q, s.heap.size ≤ q → lA s q := fun _ h => h
  refine lv_aload_n hx hb dL_law_496 rfl (lv_at hl 2 rfl) ?_
  refine lw_a1 C hk hS hl dL_law_497 dL_law_498 dL_law_500 dL_law_501 dL_law_502 ?_
  refine lw_a2 C hk hS hl dL_law_503 dL_law_504 dL_law_506 dL_law_507 dL_law_508 ?_
  refine lw_a3 C hk hS hl dL_law_509 dL_law_510 dL_law_512 dL_law_513 dL_law_514 ?_
  refine wcI (wN := fun u : OS => lwW Y ad u K ma S ou f) (As := [.int (lX xs k 1), .int (lX xs k 2), .int (lX xs k 3)]) (rest := []) ⟨hx, hb, hml, hown, hts⟩ (c_X2_entry l D Y ad t _ (lX xs k 1) (lX xs k 2) (lX xs k 3) hR.ok) (cwV 3 hts gL_law_X2_entry rfl rfl rfl hdX2_entry ⟨(Nat.le_of_ble_eq_true rfl), (Nat.le_of_ble_eq_true rfl)⟩) (oPR hP) (va_D_left hD) hK hS hA 0 3 rfl rfl rfl hl.1 rfl (Nat.le_of_ble_eq_true rfl) dL_law_515 ⟨by show _ ≤ room_1.cells; omega, by show _ ≤ room_1.slots; omega⟩ (lFo hP hD hS hA) (fun r9 v H locs hv hP hD hS => ?_)
  refine va_forget hS.2.2 ?_
  replace hS := nS hS
  obtain ⟨hv1, hv2⟩ := hv
  have hrel := hR.entry (lX xs k 1) (lX xs k 2) (lX xs k 3)
  have hps : psi v K = psi t K := by rw [hv2]; exact psi_entry t K _ _ _
  rw [← hv1, ← hv2] at hrel
  refine lv_aload_n hx hb dL_law_518 rfl (lv_at hl 3 rfl) ?_
  refine lw_a1 C hk hS hl dL_law_519 dL_law_520 dL_law_522 dL_law_523 dL_law_524 ?_
  refine lw_a2 C hk hS hl dL_law_525 dL_law_526 dL_law_528 dL_law_529 dL_law_530 ?_
  refine lw_a3 C hk hS hl dL_law_531 dL_law_532 dL_law_534 dL_law_535 dL_law_536 ?_
  refine wcI (wN := fun u : MS => lwW Y ad v K ma u ou f) (As := [.int (lX xs k 1), .int (lX xs k 2), .int (lX xs k 3)]) (rest := [.int r9]) ⟨hx, hb, hml, hown, hts⟩ (c_X3_entry l D Y ma S _ (lX xs k 1) (lX xs k 2) (lX xs k 3) hR.mv hR.room) (cwV 3 hts gL_law_X3_entry rfl rfl rfl hdX3_entry ⟨(Nat.le_of_ble_eq_true rfl), (Nat.le_of_ble_eq_true rfl)⟩) (oPR (lM ⟨hP, hD⟩).1) (va_D_left (lM ⟨hP, hD⟩).2) hK hS hA 0 4 rfl rfl rfl hl.1 rfl (Nat.le_of_ble_eq_true rfl) dL_law_537 ⟨by show _ ≤ room_1.cells; omega, by show _ ≤ room_1.slots; omega⟩ (lFm hP hD hS hA) (fun r8 u8 H locs hu hP hD hS => ?_)
  refine va_forget hS.2.2 ?_
  replace hS := nS hS
  obtain ⟨hu1, hu2⟩ := hu
  rw [← hu1, ← hu2] at hrel
  refine lv_icmp_eq (tgt := 645) hx hb dL_law_540 (by decide) (fun _ => ?_) (fun hne => absurd hrel.1 hne)
  exact l645 C hN ⟨hrel.2, hP, hD, hS⟩ hl (by unfold lCe; omega) (by unfold lSl; rw [hps]; omega)
end LWE
