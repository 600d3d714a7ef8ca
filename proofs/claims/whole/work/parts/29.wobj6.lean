set_option maxHeartbeats 4000000 in
set_option maxRecDepth 100000 in
theorem c_X2_addObject (l : Launch) (D : va_G) (Y : Nat → ClassId) (ad : OA) (t : OS) (sz : Nat) (k : Int32) (n : Int32) (b : Int32) (z : Int32) (hgd : ∀ k, k < 11 → k ≠ 5 → rGd (oR t k)) : Met l yX2_addObject wsX2_addObject ({ frames := 5, cells := 10, slots := oAddC t, locals := 125 }) (wrPc D Y [.ref (oO ad), .int k, .int n, .int b, .int z] (oW Y ad t) sz) (va_Qi (fun (ans : Int32) (u : OS) => ans = oCnt t ∧ oAddP t u k n b z) (wrB D (va_A (oW Y ad t) sz) (fun u : OS => oW Y ad u)) (va_A (oW Y ad t) sz)) (10) (oAddC t) (va_A (oW Y ad t) sz) := by
  refine wrOf (Qc := fun A => va_Qi (fun (ans : Int32) (u : OS) => ans = oCnt t ∧ oAddP t u k n b z) (wrB D A (fun u : OS => oW Y ad u)) A) (cc := cX2_addObject) (maxL := 6) (ret := (some .int)) (own := RX2) (by decide) rfl rfl (Nat.le_of_ble_eq_true rfl) ?_
  intro p e s m below meth c ls A hx hb hr hts hown hml hlocks hin hA hP hD hS hK hl
  have iwX0 : ∀ w ∈ u_ws RX0 TX0 7, w ∈ wsX2_addObject := fun _ h => List.mem_cons_of_mem _ (List.mem_append_left _ (List.mem_append_right _ h))
  have iwX2 : ∀ w ∈ u_ws RX2 TX2 10, w ∈ wsX2_addObject := fun _ h => List.mem_cons_of_mem _ (List.mem_append_left _ (List.mem_append_left _ (List.mem_append_right _ h)))
  have hl : lv_has ls 6 [(0, .ref (oO ad)), (1, .int k), (2, .int n), (3, .int b), (4, .int z)] := hl
  have hS : va_S A s.heap s.heap [] := hS
  refine lv_aload_n hx hb dX2_addObject_0 rfl (lv_at hl 0 rfl) ?_
  refine va_get (D := D) (ci := 3) (v := .int (oCnt t)) (C := RX2) (T := TX2) (N := 10) hx hb hts iwX2 hown hK hP 0 rfl rfl 8 (by decide) (hts (.fieldLink RX2 50 "ObjectRows" "count" "I") (by decide +kernel)) (fun _ h9 => h9) rfl dX2_addObject_1 ?_
  refine lv_istore (lv' := [(5, .int (oCnt t)), (0, .ref (oO ad)), (1, .int k), (2, .int n), (3, .int b), (4, .int z)]) hx hb dX2_addObject_4 hl (by decide) rfl (fun ls hl => ?_)
  refine lv_aload_n hx hb dX2_addObject_6 rfl (lv_at hl 1 rfl) ?_
  refine va_get (D := D) (ci := 3) (v := .ref (oH ad 0)) (C := RX2) (T := TX2) (N := 10) hx hb hts iwX2 hown hK hP 0 rfl rfl 0 (by decide) (hts (.fieldLink RX2 12 "ObjectRows" "kinds" "LObjectRows$Row;") (by decide +kernel)) (fun _ h9 => h9) rfl dX2_addObject_7 ?_
  refine lv_iload_n hx hb dX2_addObject_10 rfl (lv_at hl 2 rfl) ?_
  refine wcV (As := [.int k]) (rest := []) ⟨hx, hb, hml, hown, hts⟩ (c_X1_add l D Y (oH ad 0) (oR t 0) _ k (hgd 0 (by decide) (by decide)).1 (hgd 0 (by decide) (by decide)).2.1 (hgd 0 (by decide) (by decide)).2.2) (cwV 1 hts gX2_addObject_X1_add rfl rfl rfl hdX1_add ⟨Nat.le_of_ble_eq_true rfl, Nat.le_of_ble_eq_true rfl⟩) (oWr0 (t := t) hP) (oDr0 (t := t) hD) hK hS hA 0 2 rfl rfl rfl hl.1 rfl (Nat.le_of_ble_eq_true rfl) dX2_addObject_11 ⟨by dsimp only; omega, by dsimp only [oAddC]; omega⟩ (oFr0 (t := t) hP hD hS hA) (fun u1 H locs hu1 hP hD hS => ?_)
  have hP : va_P D vwCl (oW Y ad (oPut t 0 u1)) H := hP
  have hD : va_D A (oW Y ad (oPut t 0 u1)) := hD
  refine lv_aload_n hx hb dX2_addObject_14 rfl (lv_at hl 1 rfl) ?_
  refine va_get (D := D) (ci := 3) (v := .ref (oH ad 1)) (C := RX2) (T := TX2) (N := 10) hx hb hts iwX2 hown hK hP 0 rfl rfl 1 (by decide) (hts (.fieldLink RX2 16 "ObjectRows" "numbers" "LObjectRows$Row;") (by decide +kernel)) (fun _ h9 => h9) rfl dX2_addObject_15 ?_
  refine lv_iload_n hx hb dX2_addObject_18 rfl (lv_at hl 3 rfl) ?_
  refine wcV (As := [.int n]) (rest := []) ⟨hx, hb, hml, hown, hts⟩ (c_X1_add l D Y (oH ad 1) (oR t 1) _ n (hgd 1 (by decide) (by decide)).1 (hgd 1 (by decide) (by decide)).2.1 (hgd 1 (by decide) (by decide)).2.2) (cwV 1 hts gX2_addObject_X1_add rfl rfl rfl hdX1_add ⟨Nat.le_of_ble_eq_true rfl, Nat.le_of_ble_eq_true rfl⟩) (oWr1 (t := oPut t 0 u1) hP) (oDr1 (t := oPut t 0 u1) hD) hK hS hA 0 2 rfl rfl rfl hl.1 rfl (Nat.le_of_ble_eq_true rfl) dX2_addObject_19 ⟨by dsimp only; omega, by dsimp only [oAddC]; omega⟩ (oFr1 (t := oPut t 0 u1) hP hD hS hA) (fun u2 H locs hu2 hP hD hS => ?_)
  have hP : va_P D vwCl (oW Y ad (oPut (oPut t 0 u1) 1 u2)) H := hP
  have hD : va_D A (oW Y ad (oPut (oPut t 0 u1) 1 u2)) := hD
  refine lv_aload_n hx hb dX2_addObject_22 rfl (lv_at hl 1 rfl) ?_
  refine va_get (D := D) (ci := 3) (v := .ref (oH ad 2)) (C := RX2) (T := TX2) (N := 10) hx hb hts iwX2 hown hK hP 0 rfl rfl 2 (by decide) (hts (.fieldLink RX2 19 "ObjectRows" "owners" "LObjectRows$Row;") (by decide +kernel)) (fun _ h9 => h9) rfl dX2_addObject_23 ?_
  refine lv_iload hx hb dX2_addObject_26 (lv_at hl 0 rfl) ?_
  refine wcV (As := [.int (oCnt t)]) (rest := []) ⟨hx, hb, hml, hown, hts⟩ (c_X1_add l D Y (oH ad 2) (oR t 2) _ (oCnt t) (hgd 2 (by decide) (by decide)).1 (hgd 2 (by decide) (by decide)).2.1 (hgd 2 (by decide) (by decide)).2.2) (cwV 1 hts gX2_addObject_X1_add rfl rfl rfl hdX1_add ⟨Nat.le_of_ble_eq_true rfl, Nat.le_of_ble_eq_true rfl⟩) (oWr2 (t := oPut (oPut t 0 u1) 1 u2) hP) (oDr2 (t := oPut (oPut t 0 u1) 1 u2) hD) hK hS hA 0 2 rfl rfl rfl hl.1 rfl (Nat.le_of_ble_eq_true rfl) dX2_addObject_28 ⟨by dsimp only; omega, by dsimp only [oAddC]; omega⟩ (oFr2 (t := oPut (oPut t 0 u1) 1 u2) hP hD hS hA) (fun u3 H locs hu3 hP hD hS => ?_)
  have hP : va_P D vwCl (oW Y ad (oPut (oPut (oPut t 0 u1) 1 u2) 2 u3)) H := hP
  have hD : va_D A (oW Y ad (oPut (oPut (oPut t 0 u1) 1 u2) 2 u3)) := hD
  refine lv_aload_n hx hb dX2_addObject_31 rfl (lv_at hl 1 rfl) ?_
  refine va_get (D := D) (ci := 3) (v := .ref (oH ad 3)) (C := RX2) (T := TX2) (N := 10) hx hb hts iwX2 hown hK hP 0 rfl rfl 3 (by decide) (hts (.fieldLink RX2 22 "ObjectRows" "starts" "LObjectRows$Row;") (by decide +kernel)) (fun _ h9 => h9) rfl dX2_addObject_32 ?_
  refine lv_iload_n hx hb dX2_addObject_35 rfl (lv_at hl 4 rfl) ?_
  refine wcV (As := [.int b]) (rest := []) ⟨hx, hb, hml, hown, hts⟩ (c_X1_add l D Y (oH ad 3) (oR t 3) _ b (hgd 3 (by decide) (by decide)).1 (hgd 3 (by decide) (by decide)).2.1 (hgd 3 (by decide) (by decide)).2.2) (cwV 1 hts gX2_addObject_X1_add rfl rfl rfl hdX1_add ⟨Nat.le_of_ble_eq_true rfl, Nat.le_of_ble_eq_true rfl⟩) (oWr3 (t := oPut (oPut (oPut t 0 u1) 1 u2) 2 u3) hP) (oDr3 (t := oPut (oPut (oPut t 0 u1) 1 u2) 2 u3) hD) hK hS hA 0 2 rfl rfl rfl hl.1 rfl (Nat.le_of_ble_eq_true rfl) dX2_addObject_36 ⟨by dsimp only; omega, by dsimp only [oAddC]; omega⟩ (oFr3 (t := oPut (oPut (oPut t 0 u1) 1 u2) 2 u3) hP hD hS hA) (fun u4 H locs hu4 hP hD hS => ?_)
  have hP : va_P D vwCl (oW Y ad (oPut (oPut (oPut (oPut t 0 u1) 1 u2) 2 u3) 3 u4)) H := hP
  have hD : va_D A (oW Y ad (oPut (oPut (oPut (oPut t 0 u1) 1 u2) 2 u3) 3 u4)) := hD
  refine lv_aload_n hx hb dX2_addObject_39 rfl (lv_at hl 1 rfl) ?_
  refine va_get (D := D) (ci := 3) (v := .ref (oH ad 4)) (C := RX2) (T := TX2) (N := 10) hx hb hts iwX2 hown hK hP 0 rfl rfl 4 (by decide) (hts (.fieldLink RX2 25 "ObjectRows" "lengths" "LObjectRows$Row;") (by decide +kernel)) (fun _ h9 => h9) rfl dX2_addObject_40 ?_
  refine lv_iload hx hb dX2_addObject_43 (lv_at hl 5 rfl) ?_
  refine wcV (As := [.int z]) (rest := []) ⟨hx, hb, hml, hown, hts⟩ (c_X1_add l D Y (oH ad 4) (oR t 4) _ z (hgd 4 (by decide) (by decide)).1 (hgd 4 (by decide) (by decide)).2.1 (hgd 4 (by decide) (by decide)).2.2) (cwV 1 hts gX2_addObject_X1_add rfl rfl rfl hdX1_add ⟨Nat.le_of_ble_eq_true rfl, Nat.le_of_ble_eq_true rfl⟩) (oWr4 (t := oPut (oPut (oPut (oPut t 0 u1) 1 u2) 2 u3) 3 u4) hP) (oDr4 (t := oPut (oPut (oPut (oPut t 0 u1) 1 u2) 2 u3) 3 u4) hD) hK hS hA 0 2 rfl rfl rfl hl.1 rfl (Nat.le_of_ble_eq_true rfl) dX2_addObject_45 ⟨by dsimp only; omega, by dsimp only [oAddC]; omega⟩ (oFr4 (t := oPut (oPut (oPut (oPut t 0 u1) 1 u2) 2 u3) 3 u4) hP hD hS hA) (fun u5 H locs hu5 hP hD hS => ?_)
  have hP : va_P D vwCl (oW Y ad (oPut (oPut (oPut (oPut (oPut t 0 u1) 1 u2) 2 u3) 3 u4) 4 u5)) H := hP
  have hD : va_D A (oW Y ad (oPut (oPut (oPut (oPut (oPut t 0 u1) 1 u2) 2 u3) 3 u4) 4 u5)) := hD
  refine lv_aload_n hx hb dX2_addObject_48 rfl (lv_at hl 1 rfl) ?_
  refine va_get (D := D) (ci := 3) (v := .ref (oNow ad)) (C := RX2) (T := TX2) (N := 10) hx hb hts iwX2 hown hK hP 0 rfl rfl 6 (by decide) (hts (.fieldLink RX2 34 "ObjectRows" "now" "LObjectRows$Changing;") (by decide +kernel)) (fun _ h9 => h9) rfl dX2_addObject_49 ?_
  refine lv_iload_n hx hb dX2_addObject_52 rfl (lv_at hl 2 rfl) ?_
  refine scI (As := [.int k]) (rest := [.ref (oNow ad)]) ⟨hx, hb, hml, hown, hts⟩ (c_X2_firstAccess l k) (va_cwS 1 hts gX2_addObject_X2_firstAccess rfl rfl rfl hdX2_firstAccess ⟨Nat.le_of_ble_eq_true rfl, Nat.le_of_ble_eq_true rfl⟩) rfl hl.1 rfl (Nat.le_of_ble_eq_true rfl) dX2_addObject_53 ⟨(by dsimp only; omega), (by dsimp only [oAddC]; omega)⟩ (fun r6 hr6 => ?_)
  obtain rfl : r6 = pFirst k := hr6
  refine wcV (As := [.int (pFirst k)]) (rest := []) ⟨hx, hb, hml, hown, hts⟩ (c_X0_addCells l D Y (oC ad) (oCt t) _ (pFirst k) (fun k hk => hgd (6 + k) (by omega) (by omega))) (cwV 1 hts gX2_addObject_X0_addCells rfl rfl rfl hdX0_addCells ⟨Nat.le_of_ble_eq_true rfl, Nat.le_of_ble_eq_true rfl⟩) (oWc (t := oPut (oPut (oPut (oPut (oPut t 0 u1) 1 u2) 2 u3) 3 u4) 4 u5) hP) (oDc (t := oPut (oPut (oPut (oPut (oPut t 0 u1) 1 u2) 2 u3) 3 u4) 4 u5) hD) hK hS hA 0 1 rfl rfl rfl hl.1 rfl (Nat.le_of_ble_eq_true rfl) dX2_addObject_56 ⟨by dsimp only; omega, by dsimp only [oAddC]; omega⟩ (oFrC (t := oPut (oPut (oPut (oPut (oPut t 0 u1) 1 u2) 2 u3) 3 u4) 4 u5) hP hD hS hA) (fun u7 H locs hu7 hP hD hS => ?_)
  have hP : va_P D vwCl (oW Y ad (oPutC (oPut (oPut (oPut (oPut (oPut t 0 u1) 1 u2) 2 u3) 3 u4) 4 u5) u7)) H := hP
  have hD : va_D A (oW Y ad (oPutC (oPut (oPut (oPut (oPut (oPut t 0 u1) 1 u2) 2 u3) 3 u4) 4 u5) u7)) := hD
  refine lv_aload_n hx hb dX2_addObject_59 rfl (lv_at hl 1 rfl) ?_
  refine va_get (D := D) (ci := 3) (v := .ref (oNow ad)) (C := RX2) (T := TX2) (N := 10) hx hb hts iwX2 hown hK hP 0 rfl rfl 6 (by decide) (hts (.fieldLink RX2 34 "ObjectRows" "now" "LObjectRows$Changing;") (by decide +kernel)) (fun _ h9 => h9) rfl dX2_addObject_60 ?_
  refine lv_dup hx hb dX2_addObject_63 rfl ?_
  refine va_get (D := D) (ci := 1) (v := .int (oSto (oPutC (oPut (oPut (oPut (oPut (oPut t 0 u1) 1 u2) 2 u3) 3 u4) 4 u5) u7))) (C := RX0) (T := TX0) (N := 7) hx hb hts iwX0 hown hK hP 1 rfl rfl 6 (by decide) (hts (.fieldLink RX2 57 "ObjectRows$Changing" "storage" "I") (by decide +kernel)) (fun _ h9 => h9) rfl dX2_addObject_64 ?_
  refine lv_bipush (v := 8) hx hb dX2_addObject_67 (by decide) ?_
  refine lv_iadd hx hb dX2_addObject_69 ?_
  refine oFsto (ad := ad) hx hb hts iwX0 hown hK hP hD hS (hts (.fieldLink RX2 57 "ObjectRows$Changing" "storage" "I") (by decide +kernel)) dX2_addObject_70 (fun H locs hP hD hS => ?_)
  refine lv_aload_n hx hb dX2_addObject_73 rfl (lv_at hl 1 rfl) ?_
  refine lv_iload hx hb dX2_addObject_74 (lv_at hl 0 rfl) ?_
  refine lv_iconst (v := 1) hx hb dX2_addObject_76 (by decide) ?_
  refine lv_iadd hx hb dX2_addObject_77 ?_
  refine oFcnt (ad := ad) hx hb hts iwX2 hown hK hP hD hS (hts (.fieldLink RX2 50 "ObjectRows" "count" "I") (by decide +kernel)) dX2_addObject_78 (fun H locs hP hD hS => ?_)
  refine lv_iload hx hb dX2_addObject_81 (lv_at hl 0 rfl) ?_
  refine W.widen (k := 10) (n := oAddC t) (by omega) (by dsimp only [oAddC]; omega) ?_
  exact weI (wf := fun u : OS => oW Y ad u) (oSetCnt (oSetSto (oPutC (oPut (oPut (oPut (oPut (oPut t 0 u1) 1 u2) 2 u3) 3 u4) 4 u5) u7) ((oSto (oPutC (oPut (oPut (oPut (oPut (oPut t 0 u1) 1 u2) 2 u3) 3 u4) 4 u5) u7)) + 8)) ((oCnt t) + 1)) hx hb hr hlocks hP hD hS dX2_addObject_83 (⟨rfl, hu1, hu2, hu3, hu4, hu5, rfl, hu7.1, rfl, rfl, by show cSto _ + 8 = _; rw [hu7.2]⟩)
theorem hdX2_addObject : yX2_addObject.cls = RX2 ∧ yX2_addObject.cls ≠ "java/lang/invoke/MethodHandle" ∧ yX2_addObject.cls ≠ "java/lang/invoke/VarHandle" ∧ (parseMethodDescriptor yX2_addObject.desc).map (fun d => d.parameters.length) = some 4 := by decide +kernel
