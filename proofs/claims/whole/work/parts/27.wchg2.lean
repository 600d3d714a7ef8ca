set_option maxHeartbeats 4000000 in
set_option maxRecDepth 100000 in
theorem c_X0_addCells (l : Launch) (D : va_G) (Y : Nat → ClassId) (ca : CA) (t : CS) (sz : Nat) (a : Int32) (hgd : ∀ k, k < 5 → rGd (cR t k)) : Met l yX0_addCells wsX0_addCells ({ frames := 4, cells := 5, slots := cAddC t, locals := 104 }) (wrPc D Y [.ref (cO ca), .int a] (cW Y ca t) sz) (va_Qv (fun u : CS => cAddP t u a) (wrB D (va_A (cW Y ca t) sz) (fun u : CS => cW Y ca u)) (va_A (cW Y ca t) sz)) (5) (cAddC t) (va_A (cW Y ca t) sz) := by
  refine wrOf (Qc := fun A => va_Qv (fun u : CS => cAddP t u a) (wrB D A (fun u : CS => cW Y ca u)) A) (cc := cX0_addCells) (maxL := 2) (ret := none) (own := RX0) (by decide) rfl rfl (Nat.le_of_ble_eq_true rfl) ?_
  intro p e s m below meth c ls A hx hb hr hts hown hml hlocks hin hA hP hD hS hK hl
  have iwX0 : ∀ w ∈ u_ws RX0 TX0 7, w ∈ wsX0_addCells := fun _ h => List.mem_cons_of_mem _ (List.mem_append_left _ (List.mem_append_right _ h))
  have hl : lv_has ls 2 [(0, .ref (cO ca)), (1, .int a)] := hl
  have hS : va_S A s.heap s.heap [] := hS
  refine lv_aload_n hx hb dX0_addCells_0 rfl (lv_at hl 0 rfl) ?_
  refine va_get (D := D) (ci := 1) (v := .ref (cH ca 0)) (C := RX0) (T := TX0) (N := 7) hx hb hts iwX0 hown hK hP 0 rfl rfl 0 (by decide) (hts (.fieldLink RX0 10 "ObjectRows$Changing" "executables" "LObjectRows$Row;") (by decide +kernel)) (fun _ h9 => h9) rfl dX0_addCells_1 ?_
  refine lv_iconst (v := 0) hx hb dX0_addCells_4 (by decide) ?_
  refine wcV (As := [.int 0]) (rest := []) ⟨hx, hb, hml, hown, hts⟩ (c_X1_add l D Y (cH ca 0) (cR t 0) _ 0 (hgd 0 (by decide)).1 (hgd 0 (by decide)).2.1 (hgd 0 (by decide)).2.2) (cwV 1 hts gX0_addCells_X1_add rfl rfl rfl hdX1_add ⟨Nat.le_of_ble_eq_true rfl, Nat.le_of_ble_eq_true rfl⟩) (cWr0 (t := t) hP) (cDr0 (t := t) hD) hK hS hA 0 2 rfl rfl rfl hl.1 rfl (Nat.le_of_ble_eq_true rfl) dX0_addCells_5 ⟨by dsimp only; omega, by dsimp only [cAddC]; omega⟩ (cFr0 (t := t) hP hD hS hA) (fun u1 H locs hu1 hP hD hS => ?_)
  have hP : va_P D vwCl (cW Y ca (cPut t 0 u1)) H := hP
  have hD : va_D A (cW Y ca (cPut t 0 u1)) := hD
  refine lv_aload_n hx hb dX0_addCells_8 rfl (lv_at hl 0 rfl) ?_
  refine va_get (D := D) (ci := 1) (v := .ref (cH ca 1)) (C := RX0) (T := TX0) (N := 7) hx hb hts iwX0 hown hK hP 0 rfl rfl 1 (by decide) (hts (.fieldLink RX0 16 "ObjectRows$Changing" "accesses" "LObjectRows$Row;") (by decide +kernel)) (fun _ h9 => h9) rfl dX0_addCells_9 ?_
  refine lv_iload_n hx hb dX0_addCells_12 rfl (lv_at hl 1 rfl) ?_
  refine wcV (As := [.int a]) (rest := []) ⟨hx, hb, hml, hown, hts⟩ (c_X1_add l D Y (cH ca 1) (cR t 1) _ a (hgd 1 (by decide)).1 (hgd 1 (by decide)).2.1 (hgd 1 (by decide)).2.2) (cwV 1 hts gX0_addCells_X1_add rfl rfl rfl hdX1_add ⟨Nat.le_of_ble_eq_true rfl, Nat.le_of_ble_eq_true rfl⟩) (cWr1 (t := cPut t 0 u1) hP) (cDr1 (t := cPut t 0 u1) hD) hK hS hA 0 2 rfl rfl rfl hl.1 rfl (Nat.le_of_ble_eq_true rfl) dX0_addCells_13 ⟨by dsimp only; omega, by dsimp only [cAddC]; omega⟩ (cFr1 (t := cPut t 0 u1) hP hD hS hA) (fun u2 H locs hu2 hP hD hS => ?_)
  have hP : va_P D vwCl (cW Y ca (cPut (cPut t 0 u1) 1 u2)) H := hP
  have hD : va_D A (cW Y ca (cPut (cPut t 0 u1) 1 u2)) := hD
  refine lv_aload_n hx hb dX0_addCells_16 rfl (lv_at hl 0 rfl) ?_
  refine va_get (D := D) (ci := 1) (v := .ref (cH ca 2)) (C := RX0) (T := TX0) (N := 7) hx hb hts iwX0 hown hK hP 0 rfl rfl 2 (by decide) (hts (.fieldLink RX0 19 "ObjectRows$Changing" "capacities" "LObjectRows$Row;") (by decide +kernel)) (fun _ h9 => h9) rfl dX0_addCells_17 ?_
  refine lv_iconst (v := 0) hx hb dX0_addCells_20 (by decide) ?_
  refine wcV (As := [.int 0]) (rest := []) ⟨hx, hb, hml, hown, hts⟩ (c_X1_add l D Y (cH ca 2) (cR t 2) _ 0 (hgd 2 (by decide)).1 (hgd 2 (by decide)).2.1 (hgd 2 (by decide)).2.2) (cwV 1 hts gX0_addCells_X1_add rfl rfl rfl hdX1_add ⟨Nat.le_of_ble_eq_true rfl, Nat.le_of_ble_eq_true rfl⟩) (cWr2 (t := cPut (cPut t 0 u1) 1 u2) hP) (cDr2 (t := cPut (cPut t 0 u1) 1 u2) hD) hK hS hA 0 2 rfl rfl rfl hl.1 rfl (Nat.le_of_ble_eq_true rfl) dX0_addCells_21 ⟨by dsimp only; omega, by dsimp only [cAddC]; omega⟩ (cFr2 (t := cPut (cPut t 0 u1) 1 u2) hP hD hS hA) (fun u3 H locs hu3 hP hD hS => ?_)
  have hP : va_P D vwCl (cW Y ca (cPut (cPut (cPut t 0 u1) 1 u2) 2 u3)) H := hP
  have hD : va_D A (cW Y ca (cPut (cPut (cPut t 0 u1) 1 u2) 2 u3)) := hD
  refine lv_aload_n hx hb dX0_addCells_24 rfl (lv_at hl 0 rfl) ?_
  refine va_get (D := D) (ci := 1) (v := .ref (cH ca 3)) (C := RX0) (T := TX0) (N := 7) hx hb hts iwX0 hown hK hP 0 rfl rfl 3 (by decide) (hts (.fieldLink RX0 22 "ObjectRows$Changing" "entries" "LObjectRows$Row;") (by decide +kernel)) (fun _ h9 => h9) rfl dX0_addCells_25 ?_
  refine lv_iconst (v := 0) hx hb dX0_addCells_28 (by decide) ?_
  refine wcV (As := [.int 0]) (rest := []) ⟨hx, hb, hml, hown, hts⟩ (c_X1_add l D Y (cH ca 3) (cR t 3) _ 0 (hgd 3 (by decide)).1 (hgd 3 (by decide)).2.1 (hgd 3 (by decide)).2.2) (cwV 1 hts gX0_addCells_X1_add rfl rfl rfl hdX1_add ⟨Nat.le_of_ble_eq_true rfl, Nat.le_of_ble_eq_true rfl⟩) (cWr3 (t := cPut (cPut (cPut t 0 u1) 1 u2) 2 u3) hP) (cDr3 (t := cPut (cPut (cPut t 0 u1) 1 u2) 2 u3) hD) hK hS hA 0 2 rfl rfl rfl hl.1 rfl (Nat.le_of_ble_eq_true rfl) dX0_addCells_29 ⟨by dsimp only; omega, by dsimp only [cAddC]; omega⟩ (cFr3 (t := cPut (cPut (cPut t 0 u1) 1 u2) 2 u3) hP hD hS hA) (fun u4 H locs hu4 hP hD hS => ?_)
  have hP : va_P D vwCl (cW Y ca (cPut (cPut (cPut (cPut t 0 u1) 1 u2) 2 u3) 3 u4)) H := hP
  have hD : va_D A (cW Y ca (cPut (cPut (cPut (cPut t 0 u1) 1 u2) 2 u3) 3 u4)) := hD
  refine lv_aload_n hx hb dX0_addCells_32 rfl (lv_at hl 0 rfl) ?_
  refine va_get (D := D) (ci := 1) (v := .ref (cH ca 4)) (C := RX0) (T := TX0) (N := 7) hx hb hts iwX0 hown hK hP 0 rfl rfl 4 (by decide) (hts (.fieldLink RX0 25 "ObjectRows$Changing" "growths" "LObjectRows$Row;") (by decide +kernel)) (fun _ h9 => h9) rfl dX0_addCells_33 ?_
  refine lv_iconst (v := 0) hx hb dX0_addCells_36 (by decide) ?_
  refine wcV (As := [.int 0]) (rest := []) ⟨hx, hb, hml, hown, hts⟩ (c_X1_add l D Y (cH ca 4) (cR t 4) _ 0 (hgd 4 (by decide)).1 (hgd 4 (by decide)).2.1 (hgd 4 (by decide)).2.2) (cwV 1 hts gX0_addCells_X1_add rfl rfl rfl hdX1_add ⟨Nat.le_of_ble_eq_true rfl, Nat.le_of_ble_eq_true rfl⟩) (cWr4 (t := cPut (cPut (cPut (cPut t 0 u1) 1 u2) 2 u3) 3 u4) hP) (cDr4 (t := cPut (cPut (cPut (cPut t 0 u1) 1 u2) 2 u3) 3 u4) hD) hK hS hA 0 2 rfl rfl rfl hl.1 rfl (Nat.le_of_ble_eq_true rfl) dX0_addCells_37 ⟨by dsimp only; omega, by dsimp only [cAddC]; omega⟩ (cFr4 (t := cPut (cPut (cPut (cPut t 0 u1) 1 u2) 2 u3) 3 u4) hP hD hS hA) (fun u5 H locs hu5 hP hD hS => ?_)
  have hP : va_P D vwCl (cW Y ca (cPut (cPut (cPut (cPut (cPut t 0 u1) 1 u2) 2 u3) 3 u4) 4 u5)) H := hP
  have hD : va_D A (cW Y ca (cPut (cPut (cPut (cPut (cPut t 0 u1) 1 u2) 2 u3) 3 u4) 4 u5)) := hD
  refine W.widen (k := 5) (n := cAddC t) (by omega) (by dsimp only [cAddC]; omega) ?_
  exact weV (wf := fun u : CS => cW Y ca u) (cPut (cPut (cPut (cPut (cPut t 0 u1) 1 u2) 2 u3) 3 u4) 4 u5) hx hb hr hlocks hP hD hS dX0_addCells_40 (⟨⟨hu1, hu2, hu3, hu4, hu5, rfl⟩, rfl⟩)
theorem hdX0_addCells : yX0_addCells.cls = RX0 ∧ yX0_addCells.cls ≠ "java/lang/invoke/MethodHandle" ∧ yX0_addCells.cls ≠ "java/lang/invoke/VarHandle" ∧ (parseMethodDescriptor yX0_addCells.desc).map (fun d => d.parameters.length) = some 1 := by decide +kernel
