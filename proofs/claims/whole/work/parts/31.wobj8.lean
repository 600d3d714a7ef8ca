def rZerP (r u : RV) (k : Nat) : Prop := rN u = rl (rN r) (rZ r + k) ∧ rF u = rzero (rF r) (rZ r) k ∧ rZ u = rZ r + k
theorem ok_zerP {r u : RV} {k : Nat} (hok : rOK r) (hn : rN r ≤ 400000) (hk : rZ r + k ≤ 400000) (h : rZerP r u k) : rOK u := by
  obtain ⟨h1, h2, h3⟩ := h
  obtain ⟨o1, o2, o3⟩ := hok
  have a := rl_le hn hk
  have b := rl_ge (n := rN r) (k := rZ r + k)
  refine ⟨by rw [h1]; omega, fun j hj => ?_, by rw [h1, h3]; omega⟩
  rw [h1] at hj
  rw [h2]
  unfold rzero
  split
  · rfl
  · exact o2 j (by omega)
set_option maxHeartbeats 4000000 in
set_option maxRecDepth 100000 in
theorem c_X2_makeDictionary (l : Launch) (D : va_G) (Y : Nat → ClassId) (ad : OA) (t : OS) (sz : Nat) (z : Int32) (hok : oOK t) (hgd : ∀ k, k < 11 → k ≠ 5 → rGd (oR t k)) (hel : rN (oR t 11) ≤ 400000 ∧ rZ (oR t 11) + 64 ≤ 400000) : Met l yX2_makeDictionary wsX2_makeDictionary ({ frames := 6, cells := 11, slots := rc (rN (oR t 11)) (rZ (oR t 11) + 64) + oAddC t, locals := 150 }) (wrPc D Y [.ref (oO ad), .int z] (oW Y ad t) sz) (va_Qi (fun (ans : Int32) (v : OS) => ans = oCnt t ∧ ∃ e u, rZerP (oR t 11) e 64 ∧ oAddP (oPut t 11 e) u 7 0 (nI (rZ (oR t 11))) 0 ∧ v = oSet u 8 (oCnt t) z) (wrB D (va_A (oW Y ad t) sz) (fun u : OS => oW Y ad u)) (va_A (oW Y ad t) sz)) (11) (rc (rN (oR t 11)) (rZ (oR t 11) + 64) + oAddC t) (va_A (oW Y ad t) sz) := by
  refine wrOf (Qc := fun A => va_Qi (fun (ans : Int32) (v : OS) => ans = oCnt t ∧ ∃ e u, rZerP (oR t 11) e 64 ∧ oAddP (oPut t 11 e) u 7 0 (nI (rZ (oR t 11))) 0 ∧ v = oSet u 8 (oCnt t) z) (wrB D A (fun u : OS => oW Y ad u)) A) (cc := cX2_makeDictionary) (maxL := 3) (ret := (some .int)) (own := RX2) (by decide) rfl rfl (Nat.le_of_ble_eq_true rfl) ?_
  intro p e s m below meth c ls A hx hb hr hts hown hml hlocks hin hA hP hD hS hK hl
  have iwX0 : ∀ w ∈ u_ws RX0 TX0 7, w ∈ wsX2_makeDictionary := fun _ h => List.mem_cons_of_mem _ (List.mem_append_left _ (List.mem_append_right _ h))
  have iwX2 : ∀ w ∈ u_ws RX2 TX2 10, w ∈ wsX2_makeDictionary := fun _ h => List.mem_cons_of_mem _ (List.mem_append_left _ (List.mem_append_left _ (List.mem_append_right _ h)))
  have hl : lv_has ls 3 [(0, .ref (oO ad)), (1, .int z)] := hl
  have hS : va_S A s.heap s.heap [] := hS
  refine lv_aload_n hx hb dX2_makeDictionary_0 rfl (lv_at hl 0 rfl) ?_
  refine lv_bipush (v := 7) hx hb dX2_makeDictionary_1 (by decide) ?_
  refine lv_iconst (v := 0) hx hb dX2_makeDictionary_3 (by decide) ?_
  refine lv_aload_n hx hb dX2_makeDictionary_4 rfl (lv_at hl 0 rfl) ?_
  refine va_get (D := D) (ci := 3) (v := .ref (oNow ad)) (C := RX2) (T := TX2) (N := 10) hx hb hts iwX2 hown hK hP 0 rfl rfl 6 (by decide) (hts (.fieldLink RX2 34 "ObjectRows" "now" "LObjectRows$Changing;") (by decide +kernel)) (fun _ h9 => h9) rfl dX2_makeDictionary_5 ?_
  refine va_get (D := D) (ci := 1) (v := .ref (oH ad 11)) (C := RX0) (T := TX0) (N := 7) hx hb hts iwX0 hown hK hP 1 rfl rfl 5 (by decide) (hts (.fieldLink RX2 67 "ObjectRows$Changing" "elements" "LObjectRows$Row;") (by decide +kernel)) (fun _ h9 => h9) rfl dX2_makeDictionary_8 ?_
  refine lv_bipush (v := 64) hx hb dX2_makeDictionary_11 (by decide) ?_
  refine lv_toE (y := nI 64) (by decide) ?_
  refine wcI (As := [.int (nI 64)]) (rest := [.int 0, .int 7, .ref (oO ad)]) ⟨hx, hb, hml, hown, hts⟩ (c_X1_addZeros l D Y (oH ad 11) (oR t 11) 64 _ (hok 11 (by decide)) hel.1 hel.2) (cwV 1 hts gX2_makeDictionary_X1_addZeros rfl rfl rfl hdX1_addZeros ⟨Nat.le_of_ble_eq_true rfl, Nat.le_of_ble_eq_true rfl⟩) (oWr11 (t := t) hP) (oDr11 (t := t) hD) hK hS hA 0 2 rfl rfl rfl hl.1 rfl (Nat.le_of_ble_eq_true rfl) dX2_makeDictionary_13 ⟨by dsimp only; omega, by dsimp only; omega⟩ (oFr11 (t := t) hP hD hS hA) (fun r3 u2 H locs hu2 hP hD hS => ?_)
  obtain ⟨rfl, hu2⟩ := hu2
  have hac : oAddC (oPut t 11 u2) = oAddC t := rfl
  have hP : va_P D vwCl (oW Y ad (oPut t 11 u2)) H := hP
  have hD : va_D A (oW Y ad (oPut t 11 u2)) := hD
  refine lv_iconst (v := 0) hx hb dX2_makeDictionary_16 (by decide) ?_
  refine wcI (As := [.int 7, .int 0, .int (nI (rZ (oR t 11))), .int 0]) (rest := []) ⟨hx, hb, hml, hown, hts⟩ (c_X2_addObject l D Y ad (oPut t 11 u2) _ 7 0 (nI (rZ (oR t 11))) 0 (fun k hk h5 => by show rGd (if k = 11 then _ else _); rw [if_neg (by omega)]; exact hgd k hk h5)) (cwV 4 hts gX2_makeDictionary_X2_addObject rfl rfl rfl hdX2_addObject ⟨Nat.le_of_ble_eq_true rfl, Nat.le_of_ble_eq_true rfl⟩) hP hD hK hS hA 0 3 rfl rfl rfl hl.1 rfl (Nat.le_of_ble_eq_true rfl) dX2_makeDictionary_17 ⟨by dsimp only; omega, by dsimp only; omega⟩ (frSelf hD hS hA) (fun r5 u4 H locs hu4 hP hD hS => ?_)
  obtain ⟨rfl, hu4⟩ := hu4
  have hP : va_P D vwCl (oW Y ad u4) H := hP
  have hD : va_D A (oW Y ad u4) := hD
  refine lv_istore_n (lv' := [(2, .int (oCnt (oPut t 11 u2))), (0, .ref (oO ad)), (1, .int z)]) hx hb dX2_makeDictionary_20 rfl hl (by decide) rfl (fun ls hl => ?_)
  refine lv_aload_n hx hb dX2_makeDictionary_21 rfl (lv_at hl 1 rfl) ?_
  refine va_get (D := D) (ci := 3) (v := .ref (oNow ad)) (C := RX2) (T := TX2) (N := 10) hx hb hts iwX2 hown hK hP 0 rfl rfl 6 (by decide) (hts (.fieldLink RX2 34 "ObjectRows" "now" "LObjectRows$Changing;") (by decide +kernel)) (fun _ h9 => h9) rfl dX2_makeDictionary_22 ?_
  refine va_get (D := D) (ci := 1) (v := .ref (oH ad 8)) (C := RX0) (T := TX0) (N := 7) hx hb hts iwX0 hown hK hP 1 rfl rfl 2 (by decide) (hts (.fieldLink RX2 141 "ObjectRows$Changing" "capacities" "LObjectRows$Row;") (by decide +kernel)) (fun _ h9 => h9) rfl dX2_makeDictionary_25 ?_
  refine lv_iload_n hx hb dX2_makeDictionary_28 rfl (lv_at hl 0 rfl) ?_
  refine lv_iload_n hx hb dX2_makeDictionary_29 rfl (lv_at hl 2 rfl) ?_
  refine wcV (As := [.int (oCnt (oPut t 11 u2)), .int z]) (rest := []) ⟨hx, hb, hml, hown, hts⟩ (c_X1_set l D Y (oH ad 8) (oR u4 8) _ (oCnt (oPut t 11 u2)) z ((ok_add (ok_put hok (ok_zerP (hok 11 (by decide)) hel.1 hel.2 hu2)) (fun k hk h5 => by show rGd (if k = 11 then _ else _); rw [if_neg (by omega)]; exact hgd k hk h5) hu4) 8 (by decide))) (cwV 2 hts gX2_makeDictionary_X1_set rfl rfl rfl hdX1_set ⟨Nat.le_of_ble_eq_true rfl, Nat.le_of_ble_eq_true rfl⟩) (oWr8 hP) (oDr8 hD) hK hS hA 0 2 rfl rfl rfl hl.1 rfl (Nat.le_of_ble_eq_true rfl) dX2_makeDictionary_30 ⟨by dsimp only; omega, by dsimp only; omega⟩ (oFr8 hP hD hS hA) (fun u6 H locs hu6 hP hD hS => ?_)
  subst hu6
  have hP : va_P D vwCl (oW Y ad (oSet u4 8 (oCnt (oPut t 11 u2)) z)) H := hP
  have hD : va_D A (oW Y ad (oSet u4 8 (oCnt (oPut t 11 u2)) z)) := hD
  refine lv_iload_n hx hb dX2_makeDictionary_33 rfl (lv_at hl 0 rfl) ?_
  refine W.widen (k := 11) (n := rc (rN (oR t 11)) (rZ (oR t 11) + 64) + oAddC t) (by omega) (by omega) ?_
  exact weI (wf := fun u : OS => oW Y ad u) (oSet u4 8 (oCnt (oPut t 11 u2)) z) hx hb hr hlocks hP hD hS dX2_makeDictionary_34 (⟨rfl, u2, u4, hu2, hu4, rfl⟩)
theorem hdX2_makeDictionary : yX2_makeDictionary.cls = RX2 ∧ yX2_makeDictionary.cls ≠ "java/lang/invoke/MethodHandle" ∧ yX2_makeDictionary.cls ≠ "java/lang/invoke/VarHandle" ∧ (parseMethodDescriptor yX2_makeDictionary.desc).map (fun d => d.parameters.length) = some 1 := by decide +kernel
