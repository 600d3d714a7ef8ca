section LWF
variable {p : Program} {l : Launch} {e : Env} {s : State} {m : MethodId} {below : List Frame} {meth : Method} {c : Code} {H : Heap} {cells slots : Nat} {b L k pc : Nat} {xs : Nat → Int32} {D : va_G} {Y : Nat → ClassId} {ls : Array Slot} {rest : List Value} {a : AS} {ad : OA} {t : OS} {K : Nat → Option (CA × CS)} {ma : MA} {S : MS} {ou : Nat} {f : Nat → Int64} {Q : State → Prop}
set_option maxHeartbeats 4000000 in
set_option maxRecDepth 100000 in
theorem lw_part (C : LC p s m c b L xs D Y) (hN : LN p l e s m below meth c b k D Y) (hk : 4 * k + 4 ≤ L) (hS0 : LSt D Y s H a ad t K ma S ou f) (hl : lv_has ls 7 (lLv b k ad ma ou)) : W p l e room_1 s m #[Value.ref b] below meth c H [] (lCe k) (lSl k t K) (lw_Z below #[Value.ref b] s) (F0 m 262 ls []) := by
  have C0 := C
  obtain ⟨hx, hb, hml, hown, hts, hK, hNe, hX, hbl, hL⟩ := C0
  obtain ⟨hR, hP, hD, hS⟩ := hS0
  have hce : lCe k + 30 ≤ room_1.cells := Nat.le_trans (m := 600000) (by unfold lCe; omega) (by decide)
  have hsl : lSl k t K + 100000 ≤ room_1.slots := Nat.le_trans (m := 7000000) (by have := hR.psi_le; unfold lSl; omega) (by decide)
  have hA : ∀ q, s.heap.size ≤ q → lA s q := fun _ h => h
  have hac := hR.addC
  refine lv_aload_n hx hb dL_law_262 rfl (lv_at hl 2 rfl) ?_
  refine lw_a1 C hk hS hl dL_law_263 dL_law_264 dL_law_266 dL_law_267 dL_law_268 ?_
  refine lw_a2 C hk hS hl dL_law_269 dL_law_270 dL_law_272 dL_law_273 dL_law_274 ?_
  refine lw_a3 C hk hS hl dL_law_275 dL_law_276 dL_law_278 dL_law_279 dL_law_280 ?_
  refine wcI (wN := fun u : OS => lwW Y ad u K ma S ou f) (As := [.int (lX xs k 1), .int (lX xs k 2), .int (lX xs k 3)]) (rest := []) ⟨hx, hb, hml, hown, hts⟩ (c_X2_part l D Y ad t _ (lX xs k 1) (lX xs k 2) (lX xs k 3) hR.ok hR.gd) (cwV 3 hts gL_law_X2_part rfl rfl rfl hdX2_part ⟨(Nat.le_of_ble_eq_true rfl), (Nat.le_of_ble_eq_true rfl)⟩) (oPR hP) (va_D_left hD) hK hS hA 0 3 rfl rfl rfl hl.1 rfl (Nat.le_of_ble_eq_true rfl) dL_law_281 ⟨by show _ ≤ room_1.cells; omega, by show _ ≤ room_1.slots; omega⟩ (lFo hP hD hS hA) (fun r9 v H locs hv hP hD hS => ?_)
  refine va_forget hS.2.2 ?_
  replace hS := nS hS
  have hps : psi v K = psi t K := by
    rcases hv with ⟨-, -, rfl⟩ | ⟨-, -, u, hu, rfl⟩
    · rfl
    · rw [psi_partF]
      exact psi_same (by rw [(add_5 hu).1]) (by rw [(add_5 hu).2])
  obtain ⟨hrel, a', hR'⟩ := hR.part (lX xs k 1) (lX xs k 2) (lX xs k 3) r9 hv
  refine lv_aload_n hx hb dL_law_284 rfl (lv_at hl 3 rfl) ?_
  refine lw_a1 C hk hS hl dL_law_285 dL_law_286 dL_law_288 dL_law_289 dL_law_290 ?_
  refine lw_a2 C hk hS hl dL_law_291 dL_law_292 dL_law_294 dL_law_295 dL_law_296 ?_
  refine lw_a3 C hk hS hl dL_law_297 dL_law_298 dL_law_300 dL_law_301 dL_law_302 ?_
  refine wcI (wN := fun u : MS => lwW Y ad v K ma u ou f) (As := [.int (lX xs k 1), .int (lX xs k 2), .int (lX xs k 3)]) (rest := [.int r9]) ⟨hx, hb, hml, hown, hts⟩ (c_X3_part l D Y ma S _ (lX xs k 1) (lX xs k 2) (lX xs k 3) hR.mv hR.hm hR.hne) (cwV 3 hts gL_law_X3_part rfl rfl rfl hdX3_part ⟨(Nat.le_of_ble_eq_true rfl), (Nat.le_of_ble_eq_true rfl)⟩) (oPR (lM ⟨hP, hD⟩).1) (va_D_left (lM ⟨hP, hD⟩).2) hK hS hA 0 4 rfl rfl rfl hl.1 rfl (Nat.le_of_ble_eq_true rfl) dL_law_303 ⟨by show _ ≤ room_1.cells; omega, by show _ ≤ room_1.slots; omega⟩ (lFm hP hD hS hA) (fun r8 u8 H locs hu hP hD hS => ?_)
  refine va_forget hS.2.2 ?_
  replace hS := nS hS
  obtain ⟨hu1, hu2⟩ := hu
  rw [← hu1] at hrel
  rw [← hu2] at hR'
  refine lv_icmp_eq (tgt := 645) hx hb dL_law_306 (by decide) (fun _ => ?_) (fun hne => absurd hrel hne)
  exact l645 C hN ⟨hR', hP, hD, hS⟩ hl (by unfold lCe; omega) (by unfold lSl; rw [hps]; omega)
theorem hdX2_restore : yX2_restore.cls = RX2 ∧ yX2_restore.cls ≠ "java/lang/invoke/MethodHandle" ∧ yX2_restore.cls ≠ "java/lang/invoke/VarHandle" ∧ (parseMethodDescriptor yX2_restore.desc).map (fun d => d.parameters.length) = some 1 := by decide +kernel
theorem hdX2_make : yX2_make.cls = RX2 ∧ yX2_make.cls ≠ "java/lang/invoke/MethodHandle" ∧ yX2_make.cls ≠ "java/lang/invoke/VarHandle" ∧ (parseMethodDescriptor yX2_make.desc).map (fun d => d.parameters.length) = some 2 := by decide +kernel
theorem rc_0 (n : Nat) : rc n 0 = 0 := by unfold rc; rw [if_neg (by omega)]
theorem becC_0 (t : CS) : cBecC t (kS none) = 0 := by
  show rc _ 0 + rc _ 0 + rc _ 0 + rc _ 0 + rc _ 0 + rc _ 0 = 0
  simp only [rc_0]
set_option maxHeartbeats 4000000 in
set_option maxRecDepth 100000 in
theorem lw_restore0 (hns : pKnown t (lX xs k 1) = true → kd t (lX xs k 1) ≠ 11) (C : LC p s m c b L xs D Y) (hN : LN p l e s m below meth c b k D Y) (hk : 4 * k + 4 ≤ L) (hS0 : LSt D Y s H a ad t K ma S ou f) (hl : lv_has ls 7 (lLv b k ad ma ou)) : W p l e room_1 s m #[Value.ref b] below meth c H [] (lCe k) (lSl k t K) (lw_Z below #[Value.ref b] s) (F0 m 620 ls []) := by
  have C0 := C
  obtain ⟨hx, hb, hml, hown, hts, hK, hNe, hX, hbl, hL⟩ := C0
  obtain ⟨hR, hP, hD, hS⟩ := hS0
  have hce : lCe k + 30 ≤ room_1.cells := Nat.le_trans (m := 600000) (by unfold lCe; omega) (by decide)
  have hsl : lSl k t K + 100000 ≤ room_1.slots := Nat.le_trans (m := 7000000) (by have := hR.psi_le; unfold lSl; omega) (by decide)
  have hA : ∀ q, s.heap.size ≤ q → lA s q := fun _ h => h
  have hkp : pKnown t (lX xs k 1) = true → gKept t (kG K) (lX xs k 1) = (none : Option (CA × CS)).map (fun q => cO q.1) := fun h => by
    rcases hR.kept h with ⟨-, g⟩ | ⟨g, -⟩
    · exact g _
    · exact absurd g (hns h)
  have hq : qObj S (lX xs k 1) = true → mK S (lX xs k 1) ≠ 11 := by
    intro h h2
    rcases hR.known (lX xs k 1) with ⟨j, hj, e1, e2, -⟩ | ⟨-, e2⟩
    · have h3 := hns e2
      rw [e1] at h3 h2
      exact h3 ((hR.d11 hj).mpr ((hR.m11 hj).mp h2))
    · rw [e2] at h; cases h
  refine lv_aload_n hx hb dL_law_620 rfl (lv_at hl 2 rfl) ?_
  refine lw_a1 C hk hS hl dL_law_621 dL_law_622 dL_law_624 dL_law_625 dL_law_626 ?_
  refine wcI (wN := fun u : OS => lwW Y ad u K ma S ou f) (As := [.int (lX xs k 1)]) (rest := []) ⟨hx, hb, hml, hown, hts⟩ (c_X2_restore l D Y ad t (kG K) none (kB Y (K 0) ++ (kB Y (K 1) ++ (kB Y (K 2) ++ (mW Y ma S ++ lW Y ou f)))) (lX xs k 1) 0 _ hR.ok hR.c6 (fun _ h => by cases h) hkp (fun h => absurd rfl h) (by omega)) (cwV 1 hts gL_law_X2_restore rfl rfl rfl hdX2_restore ⟨(Nat.le_of_ble_eq_true rfl), (Nat.le_of_ble_eq_true rfl)⟩) hP hD hK hS hA 0 3 rfl rfl rfl hl.1 rfl (Nat.le_of_ble_eq_true rfl) dL_law_627 ⟨by show _ ≤ room_1.cells; omega, by show _ + cBecC _ _ ≤ room_1.slots; rw [becC_0]; omega⟩ (frSelf (wf := fun u : OS => lwW Y ad u K ma S ou f) hD hS hA) (fun r9 v H locs hv hP hD hS => ?_)
  refine va_forget hS.2.2 ?_
  replace hS := nS hS
  have hv9 : v = t ∧ r9 = (fRestore S (lX xs k 1) 0).1 ∧ mSetThr S 0 = (fRestore S (lX xs k 1) 0).2 := by
    rcases hR.known (lX xs k 1) with ⟨j, hj, e1, e2, e3⟩ | ⟨e2, e3⟩
    · rcases hv with ⟨g, -⟩ | ⟨-, -, g, g2⟩ | ⟨-, q, w, g, -⟩
      · rw [e2] at g; cases g
      · rw [fRestore, if_neg (show ¬ qObj S (lX xs k 1) = false by rw [e3]; decide), if_pos (hq e3)]
        exact ⟨g2, g, rfl⟩
      · cases g
    · rcases hv with ⟨-, g, g2⟩ | ⟨g, -⟩ | ⟨g, -⟩
      · rw [fRestore, if_pos e3]
        exact ⟨g2, g, rfl⟩
      · rw [e2] at g; cases g
      · rw [e2] at g; cases g
  obtain ⟨hvt, hr9, hm9⟩ := hv9
  rw [hvt] at hP hD
  have hb0 := becC_0 (oCt t)
  refine lv_aload_n hx hb dL_law_630 rfl (lv_at hl 3 rfl) ?_
  refine lw_a1 C hk hS hl dL_law_631 dL_law_632 dL_law_634 dL_law_635 dL_law_636 ?_
  refine wcI (wN := fun u : MS => lwW Y ad t K ma u ou f) (As := [.int (lX xs k 1)]) (rest := [.int r9]) ⟨hx, hb, hml, hown, hts⟩ (c_X3_restore l D Y ma S 0 _ (lX xs k 1) hR.mv (fun h h2 => absurd h2 (hq h)) hR.n5 hR.n9) (cwV 1 hts gL_law_X3_restore rfl rfl rfl hdX3_restore ⟨(Nat.le_of_ble_eq_true rfl), (Nat.le_of_ble_eq_true rfl)⟩) (oPR (lM ⟨hP, hD⟩).1) (va_D_left (lM ⟨hP, hD⟩).2) hK hS hA 0 4 rfl rfl rfl hl.1 rfl (Nat.le_of_ble_eq_true rfl) dL_law_637 ⟨by show _ ≤ room_1.cells; omega, by show _ ≤ room_1.slots; omega⟩ (lFm hP hD hS hA) (fun r8 u8 H locs hu hP hD hS => ?_)
  refine va_forget hS.2.2 ?_
  replace hS := nS hS
  obtain ⟨hu1, hu2⟩ := hu
  rw [← hm9] at hu2
  subst hu2
  refine lv_icmp_eq (tgt := 645) hx hb dL_law_640 (by decide) (fun _ => ?_) (fun hne => absurd (hr9.trans hu1.symm) hne)
  exact l645 C hN ⟨hR.thr 0, hP, hD, hS⟩ hl (by unfold lCe; omega) (by unfold lSl; omega)
end LWF
