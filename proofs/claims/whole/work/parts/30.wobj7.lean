theorem ok_radd {r u : RV} {v : Int32} (hg : rGd r) (h : rAddP r u v) : rOK u := by
  obtain ⟨h1, h2, h3⟩ := h
  obtain ⟨⟨o1, o2, o3⟩, g1, g2⟩ := hg
  have a := rl_le g1 (show rZ r + 1 ≤ 400000 by omega)
  have b := rl_ge (n := rN r) (k := rZ r + 1)
  refine ⟨by rw [h1]; omega, fun j hj => ?_, by rw [h1, h3]; omega⟩
  rw [h1] at hj
  rw [h2]
  unfold upd
  rw [if_neg (by omega)]
  exact o2 j (by omega)
theorem ok_add {t u : OS} {k n s z : Int32} (hok : oOK t) (hg : ∀ k, k < 11 → k ≠ 5 → rGd (oR t k)) (h : oAddP t u k n s z) : oOK u := by
  obtain ⟨h0, h1, h2, h3, h4, h5, ⟨h6, h7, h8, h9, h10, h11⟩, -⟩ := h
  intro j hj
  match j, hj with
  | 0, _ => exact ok_radd (hg 0 (by decide) (by decide)) h0
  | 1, _ => exact ok_radd (hg 1 (by decide) (by decide)) h1
  | 2, _ => exact ok_radd (hg 2 (by decide) (by decide)) h2
  | 3, _ => exact ok_radd (hg 3 (by decide) (by decide)) h3
  | 4, _ => exact ok_radd (hg 4 (by decide) (by decide)) h4
  | 5, _ => rw [h5]; exact hok 5 (by decide)
  | 6, _ => exact ok_radd (hg 6 (by decide) (by decide)) h6
  | 7, _ => exact ok_radd (hg 7 (by decide) (by decide)) h7
  | 8, _ => exact ok_radd (hg 8 (by decide) (by decide)) h8
  | 9, _ => exact ok_radd (hg 9 (by decide) (by decide)) h9
  | 10, _ => exact ok_radd (hg 10 (by decide) (by decide)) h10
  | 11, _ => rw [show oR u 11 = oR t 11 from h11]; exact hok 11 (by decide)
def gPartF (u : OS) (m x : Int32) : OS := oSet (oSet (oSet u 2 m (ow u x)) 7 m (rdA (oSet u 2 m (ow u x)) x)) 6 m (rdX (oSet (oSet u 2 m (ow u x)) 7 m (rdA (oSet u 2 m (ow u x)) x)) x)
set_option maxHeartbeats 4000000 in
set_option maxRecDepth 100000 in
theorem c_X2_addPart (l : Launch) (D : va_G) (Y : Nat → ClassId) (ad : OA) (t : OS) (sz : Nat) (x : Int32) (f : Int32) (n : Int32) (hok : oOK t) (hgd : ∀ k, k < 11 → k ≠ 5 → rGd (oR t k)) : Met l yX2_addPart wsX2_addPart ({ frames := 6, cells := 10, slots := oAddC t, locals := 150 }) (wrPc D Y [.ref (oO ad), .int x, .int f, .int n] (oW Y ad t) sz) (va_Qi (fun (ans : Int32) (v : OS) => ans = oCnt t ∧ ∃ u, oAddP t u (kd t x) 0 (sta t x + f) n ∧ v = gPartF u (oCnt t) x) (wrB D (va_A (oW Y ad t) sz) (fun u : OS => oW Y ad u)) (va_A (oW Y ad t) sz)) (10) (oAddC t) (va_A (oW Y ad t) sz) := by
  refine wrOf (Qc := fun A => va_Qi (fun (ans : Int32) (v : OS) => ans = oCnt t ∧ ∃ u, oAddP t u (kd t x) 0 (sta t x + f) n ∧ v = gPartF u (oCnt t) x) (wrB D A (fun u : OS => oW Y ad u)) A) (cc := cX2_addPart) (maxL := 5) (ret := (some .int)) (own := RX2) (by decide) rfl rfl (Nat.le_of_ble_eq_true rfl) ?_
  intro p e s m below meth c ls A hx hb hr hts hown hml hlocks hin hA hP hD hS hK hl
  have iwX0 : ∀ w ∈ u_ws RX0 TX0 7, w ∈ wsX2_addPart := fun _ h => List.mem_cons_of_mem _ (List.mem_append_left _ (List.mem_append_right _ h))
  have iwX2 : ∀ w ∈ u_ws RX2 TX2 10, w ∈ wsX2_addPart := fun _ h => List.mem_cons_of_mem _ (List.mem_append_left _ (List.mem_append_left _ (List.mem_append_right _ h)))
  have hl : lv_has ls 5 [(0, .ref (oO ad)), (1, .int x), (2, .int f), (3, .int n)] := hl
  have hS : va_S A s.heap s.heap [] := hS
  refine lv_aload_n hx hb dX2_addPart_0 rfl (lv_at hl 0 rfl) ?_
  refine lv_aload_n hx hb dX2_addPart_1 rfl (lv_at hl 0 rfl) ?_
  refine va_get (D := D) (ci := 3) (v := .ref (oH ad 0)) (C := RX2) (T := TX2) (N := 10) hx hb hts iwX2 hown hK hP 0 rfl rfl 0 (by decide) (hts (.fieldLink RX2 12 "ObjectRows" "kinds" "LObjectRows$Row;") (by decide +kernel)) (fun _ h9 => h9) rfl dX2_addPart_2 ?_
  refine lv_iload_n hx hb dX2_addPart_5 rfl (lv_at hl 1 rfl) ?_
  refine rcI (As := [.int x]) (rest := [.ref (oO ad)]) ⟨hx, hb, hml, hown, hts⟩ (c_X1_at l D Y (oH ad 0) (oR t 0) x (hok 0 (by decide))) (cwV 1 hts gX2_addPart_X1_at rfl rfl rfl hdX1_at ⟨Nat.le_of_ble_eq_true rfl, Nat.le_of_ble_eq_true rfl⟩) (oWr0 hP) hK 0 2 rfl rfl rfl hl.1 rfl (Nat.le_of_ble_eq_true rfl) dX2_addPart_6 ⟨(by dsimp only; omega), (by dsimp only; omega)⟩ (fun r1 hr1 => ?_)
  obtain rfl : r1 = kd t x := hr1
  refine lv_iconst (v := 0) hx hb dX2_addPart_9 (by decide) ?_
  refine lv_aload_n hx hb dX2_addPart_10 rfl (lv_at hl 0 rfl) ?_
  refine va_get (D := D) (ci := 3) (v := .ref (oH ad 3)) (C := RX2) (T := TX2) (N := 10) hx hb hts iwX2 hown hK hP 0 rfl rfl 3 (by decide) (hts (.fieldLink RX2 22 "ObjectRows" "starts" "LObjectRows$Row;") (by decide +kernel)) (fun _ h9 => h9) rfl dX2_addPart_11 ?_
  refine lv_iload_n hx hb dX2_addPart_14 rfl (lv_at hl 1 rfl) ?_
  refine rcI (As := [.int x]) (rest := [.int 0, .int (kd t x), .ref (oO ad)]) ⟨hx, hb, hml, hown, hts⟩ (c_X1_at l D Y (oH ad 3) (oR t 3) x (hok 3 (by decide))) (cwV 1 hts gX2_addPart_X1_at rfl rfl rfl hdX1_at ⟨Nat.le_of_ble_eq_true rfl, Nat.le_of_ble_eq_true rfl⟩) (oWr3 hP) hK 0 2 rfl rfl rfl hl.1 rfl (Nat.le_of_ble_eq_true rfl) dX2_addPart_15 ⟨(by dsimp only; omega), (by dsimp only; omega)⟩ (fun r2 hr2 => ?_)
  obtain rfl : r2 = sta t x := hr2
  refine lv_iload_n hx hb dX2_addPart_18 rfl (lv_at hl 2 rfl) ?_
  refine lv_iadd hx hb dX2_addPart_19 ?_
  refine lv_iload_n hx hb dX2_addPart_20 rfl (lv_at hl 3 rfl) ?_
  refine wcI (As := [.int (kd t x), .int 0, .int ((sta t x) + f), .int n]) (rest := []) ⟨hx, hb, hml, hown, hts⟩ (c_X2_addObject l D Y ad t _ (kd t x) 0 ((sta t x) + f) n hgd) (cwV 4 hts gX2_addPart_X2_addObject rfl rfl rfl hdX2_addObject ⟨Nat.le_of_ble_eq_true rfl, Nat.le_of_ble_eq_true rfl⟩) hP hD hK hS hA 0 3 rfl rfl rfl hl.1 rfl (Nat.le_of_ble_eq_true rfl) dX2_addPart_21 ⟨by dsimp only; omega, by dsimp only; omega⟩ (frSelf hD hS hA) (fun r4 u3 H locs hu3 hP hD hS => ?_)
  obtain ⟨rfl, hu3⟩ := hu3
  have hP : va_P D vwCl (oW Y ad u3) H := hP
  have hD : va_D A (oW Y ad u3) := hD
  refine lv_istore (lv' := [(4, .int (oCnt t)), (0, .ref (oO ad)), (1, .int x), (2, .int f), (3, .int n)]) hx hb dX2_addPart_24 hl (by decide) rfl (fun ls hl => ?_)
  refine lv_aload_n hx hb dX2_addPart_26 rfl (lv_at hl 1 rfl) ?_
  refine va_get (D := D) (ci := 3) (v := .ref (oH ad 2)) (C := RX2) (T := TX2) (N := 10) hx hb hts iwX2 hown hK hP 0 rfl rfl 2 (by decide) (hts (.fieldLink RX2 19 "ObjectRows" "owners" "LObjectRows$Row;") (by decide +kernel)) (fun _ h9 => h9) rfl dX2_addPart_27 ?_
  refine lv_iload hx hb dX2_addPart_30 (lv_at hl 0 rfl) ?_
  refine lv_aload_n hx hb dX2_addPart_32 rfl (lv_at hl 1 rfl) ?_
  refine va_get (D := D) (ci := 3) (v := .ref (oH ad 2)) (C := RX2) (T := TX2) (N := 10) hx hb hts iwX2 hown hK hP 0 rfl rfl 2 (by decide) (hts (.fieldLink RX2 19 "ObjectRows" "owners" "LObjectRows$Row;") (by decide +kernel)) (fun _ h9 => h9) rfl dX2_addPart_33 ?_
  refine lv_iload_n hx hb dX2_addPart_36 rfl (lv_at hl 2 rfl) ?_
  refine rcI (As := [.int x]) (rest := [.int (oCnt t), .ref (oH ad 2)]) ⟨hx, hb, hml, hown, hts⟩ (c_X1_at l D Y (oH ad 2) (oR u3 2) x ((ok_add hok hgd hu3) 2 (by decide))) (cwV 1 hts gX2_addPart_X1_at rfl rfl rfl hdX1_at ⟨Nat.le_of_ble_eq_true rfl, Nat.le_of_ble_eq_true rfl⟩) (oWr2 hP) hK 0 2 rfl rfl rfl hl.1 rfl (Nat.le_of_ble_eq_true rfl) dX2_addPart_37 ⟨(by dsimp only; omega), (by dsimp only; omega)⟩ (fun r5 hr5 => ?_)
  obtain rfl : r5 = ow u3 x := hr5
  refine wcV (As := [.int (oCnt t), .int (ow u3 x)]) (rest := []) ⟨hx, hb, hml, hown, hts⟩ (c_X1_set l D Y (oH ad 2) (oR u3 2) _ (oCnt t) (ow u3 x) ((ok_add hok hgd hu3) 2 (by decide))) (cwV 2 hts gX2_addPart_X1_set rfl rfl rfl hdX1_set ⟨Nat.le_of_ble_eq_true rfl, Nat.le_of_ble_eq_true rfl⟩) (oWr2 hP) (oDr2 hD) hK hS hA 0 2 rfl rfl rfl hl.1 rfl (Nat.le_of_ble_eq_true rfl) dX2_addPart_40 ⟨by dsimp only; omega, by dsimp only; omega⟩ (oFr2 hP hD hS hA) (fun u6 H locs hu6 hP hD hS => ?_)
  subst hu6
  have hP : va_P D vwCl (oW Y ad (oSet u3 2 (oCnt t) (ow u3 x))) H := hP
  have hD : va_D A (oW Y ad (oSet u3 2 (oCnt t) (ow u3 x))) := hD
  refine lv_aload_n hx hb dX2_addPart_43 rfl (lv_at hl 1 rfl) ?_
  refine va_get (D := D) (ci := 3) (v := .ref (oNow ad)) (C := RX2) (T := TX2) (N := 10) hx hb hts iwX2 hown hK hP 0 rfl rfl 6 (by decide) (hts (.fieldLink RX2 34 "ObjectRows" "now" "LObjectRows$Changing;") (by decide +kernel)) (fun _ h9 => h9) rfl dX2_addPart_44 ?_
  refine va_get (D := D) (ci := 1) (v := .ref (oH ad 7)) (C := RX0) (T := TX0) (N := 7) hx hb hts iwX0 hown hK hP 1 rfl rfl 1 (by decide) (hts (.fieldLink RX2 206 "ObjectRows$Changing" "accesses" "LObjectRows$Row;") (by decide +kernel)) (fun _ h9 => h9) rfl dX2_addPart_47 ?_
  refine lv_iload hx hb dX2_addPart_50 (lv_at hl 0 rfl) ?_
  refine lv_aload_n hx hb dX2_addPart_52 rfl (lv_at hl 1 rfl) ?_
  refine va_get (D := D) (ci := 3) (v := .ref (oNow ad)) (C := RX2) (T := TX2) (N := 10) hx hb hts iwX2 hown hK hP 0 rfl rfl 6 (by decide) (hts (.fieldLink RX2 34 "ObjectRows" "now" "LObjectRows$Changing;") (by decide +kernel)) (fun _ h9 => h9) rfl dX2_addPart_53 ?_
  refine va_get (D := D) (ci := 1) (v := .ref (oH ad 7)) (C := RX0) (T := TX0) (N := 7) hx hb hts iwX0 hown hK hP 1 rfl rfl 1 (by decide) (hts (.fieldLink RX2 206 "ObjectRows$Changing" "accesses" "LObjectRows$Row;") (by decide +kernel)) (fun _ h9 => h9) rfl dX2_addPart_56 ?_
  refine lv_iload_n hx hb dX2_addPart_59 rfl (lv_at hl 2 rfl) ?_
  refine rcI (As := [.int x]) (rest := [.int (oCnt t), .ref (oH ad 7)]) ⟨hx, hb, hml, hown, hts⟩ (c_X1_at l D Y (oH ad 7) (oR (oSet u3 2 (oCnt t) (ow u3 x)) 7) x ((ok_oset (ok_add hok hgd hu3) (by decide)) 7 (by decide))) (cwV 1 hts gX2_addPart_X1_at rfl rfl rfl hdX1_at ⟨Nat.le_of_ble_eq_true rfl, Nat.le_of_ble_eq_true rfl⟩) (oWr7 hP) hK 0 2 rfl rfl rfl hl.1 rfl (Nat.le_of_ble_eq_true rfl) dX2_addPart_60 ⟨(by dsimp only; omega), (by dsimp only; omega)⟩ (fun r7 hr7 => ?_)
  obtain rfl : r7 = rdA (oSet u3 2 (oCnt t) (ow u3 x)) x := hr7
  refine wcV (As := [.int (oCnt t), .int (rdA (oSet u3 2 (oCnt t) (ow u3 x)) x)]) (rest := []) ⟨hx, hb, hml, hown, hts⟩ (c_X1_set l D Y (oH ad 7) (oR (oSet u3 2 (oCnt t) (ow u3 x)) 7) _ (oCnt t) (rdA (oSet u3 2 (oCnt t) (ow u3 x)) x) ((ok_oset (ok_add hok hgd hu3) (by decide)) 7 (by decide))) (cwV 2 hts gX2_addPart_X1_set rfl rfl rfl hdX1_set ⟨Nat.le_of_ble_eq_true rfl, Nat.le_of_ble_eq_true rfl⟩) (oWr7 hP) (oDr7 hD) hK hS hA 0 2 rfl rfl rfl hl.1 rfl (Nat.le_of_ble_eq_true rfl) dX2_addPart_63 ⟨by dsimp only; omega, by dsimp only; omega⟩ (oFr7 hP hD hS hA) (fun u8 H locs hu8 hP hD hS => ?_)
  subst hu8
  have hP : va_P D vwCl (oW Y ad (oSet (oSet u3 2 (oCnt t) (ow u3 x)) 7 (oCnt t) (rdA (oSet u3 2 (oCnt t) (ow u3 x)) x))) H := hP
  have hD : va_D A (oW Y ad (oSet (oSet u3 2 (oCnt t) (ow u3 x)) 7 (oCnt t) (rdA (oSet u3 2 (oCnt t) (ow u3 x)) x))) := hD
  refine lv_aload_n hx hb dX2_addPart_66 rfl (lv_at hl 1 rfl) ?_
  refine va_get (D := D) (ci := 3) (v := .ref (oNow ad)) (C := RX2) (T := TX2) (N := 10) hx hb hts iwX2 hown hK hP 0 rfl rfl 6 (by decide) (hts (.fieldLink RX2 34 "ObjectRows" "now" "LObjectRows$Changing;") (by decide +kernel)) (fun _ h9 => h9) rfl dX2_addPart_67 ?_
  refine va_get (D := D) (ci := 1) (v := .ref (oH ad 6)) (C := RX0) (T := TX0) (N := 7) hx hb hts iwX0 hown hK hP 1 rfl rfl 0 (by decide) (hts (.fieldLink RX2 126 "ObjectRows$Changing" "executables" "LObjectRows$Row;") (by decide +kernel)) (fun _ h9 => h9) rfl dX2_addPart_70 ?_
  refine lv_iload hx hb dX2_addPart_73 (lv_at hl 0 rfl) ?_
  refine lv_aload_n hx hb dX2_addPart_75 rfl (lv_at hl 1 rfl) ?_
  refine va_get (D := D) (ci := 3) (v := .ref (oNow ad)) (C := RX2) (T := TX2) (N := 10) hx hb hts iwX2 hown hK hP 0 rfl rfl 6 (by decide) (hts (.fieldLink RX2 34 "ObjectRows" "now" "LObjectRows$Changing;") (by decide +kernel)) (fun _ h9 => h9) rfl dX2_addPart_76 ?_
  refine va_get (D := D) (ci := 1) (v := .ref (oH ad 6)) (C := RX0) (T := TX0) (N := 7) hx hb hts iwX0 hown hK hP 1 rfl rfl 0 (by decide) (hts (.fieldLink RX2 126 "ObjectRows$Changing" "executables" "LObjectRows$Row;") (by decide +kernel)) (fun _ h9 => h9) rfl dX2_addPart_79 ?_
  refine lv_iload_n hx hb dX2_addPart_82 rfl (lv_at hl 2 rfl) ?_
  refine rcI (As := [.int x]) (rest := [.int (oCnt t), .ref (oH ad 6)]) ⟨hx, hb, hml, hown, hts⟩ (c_X1_at l D Y (oH ad 6) (oR (oSet (oSet u3 2 (oCnt t) (ow u3 x)) 7 (oCnt t) (rdA (oSet u3 2 (oCnt t) (ow u3 x)) x)) 6) x ((ok_oset (ok_oset (ok_add hok hgd hu3) (by decide)) (by decide)) 6 (by decide))) (cwV 1 hts gX2_addPart_X1_at rfl rfl rfl hdX1_at ⟨Nat.le_of_ble_eq_true rfl, Nat.le_of_ble_eq_true rfl⟩) (oWr6 hP) hK 0 2 rfl rfl rfl hl.1 rfl (Nat.le_of_ble_eq_true rfl) dX2_addPart_83 ⟨(by dsimp only; omega), (by dsimp only; omega)⟩ (fun r9 hr9 => ?_)
  obtain rfl : r9 = rdX (oSet (oSet u3 2 (oCnt t) (ow u3 x)) 7 (oCnt t) (rdA (oSet u3 2 (oCnt t) (ow u3 x)) x)) x := hr9
  refine wcV (As := [.int (oCnt t), .int (rdX (oSet (oSet u3 2 (oCnt t) (ow u3 x)) 7 (oCnt t) (rdA (oSet u3 2 (oCnt t) (ow u3 x)) x)) x)]) (rest := []) ⟨hx, hb, hml, hown, hts⟩ (c_X1_set l D Y (oH ad 6) (oR (oSet (oSet u3 2 (oCnt t) (ow u3 x)) 7 (oCnt t) (rdA (oSet u3 2 (oCnt t) (ow u3 x)) x)) 6) _ (oCnt t) (rdX (oSet (oSet u3 2 (oCnt t) (ow u3 x)) 7 (oCnt t) (rdA (oSet u3 2 (oCnt t) (ow u3 x)) x)) x) ((ok_oset (ok_oset (ok_add hok hgd hu3) (by decide)) (by decide)) 6 (by decide))) (cwV 2 hts gX2_addPart_X1_set rfl rfl rfl hdX1_set ⟨Nat.le_of_ble_eq_true rfl, Nat.le_of_ble_eq_true rfl⟩) (oWr6 hP) (oDr6 hD) hK hS hA 0 2 rfl rfl rfl hl.1 rfl (Nat.le_of_ble_eq_true rfl) dX2_addPart_86 ⟨by dsimp only; omega, by dsimp only; omega⟩ (oFr6 hP hD hS hA) (fun u10 H locs hu10 hP hD hS => ?_)
  subst hu10
  have hP : va_P D vwCl (oW Y ad (oSet (oSet (oSet u3 2 (oCnt t) (ow u3 x)) 7 (oCnt t) (rdA (oSet u3 2 (oCnt t) (ow u3 x)) x)) 6 (oCnt t) (rdX (oSet (oSet u3 2 (oCnt t) (ow u3 x)) 7 (oCnt t) (rdA (oSet u3 2 (oCnt t) (ow u3 x)) x)) x))) H := hP
  have hD : va_D A (oW Y ad (oSet (oSet (oSet u3 2 (oCnt t) (ow u3 x)) 7 (oCnt t) (rdA (oSet u3 2 (oCnt t) (ow u3 x)) x)) 6 (oCnt t) (rdX (oSet (oSet u3 2 (oCnt t) (ow u3 x)) 7 (oCnt t) (rdA (oSet u3 2 (oCnt t) (ow u3 x)) x)) x))) := hD
  refine lv_iload hx hb dX2_addPart_89 (lv_at hl 0 rfl) ?_
  refine W.widen (k := 10) (n := oAddC t) (by omega) (by omega) ?_
  exact weI (wf := fun u : OS => oW Y ad u) (oSet (oSet (oSet u3 2 (oCnt t) (ow u3 x)) 7 (oCnt t) (rdA (oSet u3 2 (oCnt t) (ow u3 x)) x)) 6 (oCnt t) (rdX (oSet (oSet u3 2 (oCnt t) (ow u3 x)) 7 (oCnt t) (rdA (oSet u3 2 (oCnt t) (ow u3 x)) x)) x)) hx hb hr hlocks hP hD hS dX2_addPart_91 (⟨rfl, u3, hu3, rfl⟩)
theorem hdX2_addPart : yX2_addPart.cls = RX2 ∧ yX2_addPart.cls ≠ "java/lang/invoke/MethodHandle" ∧ yX2_addPart.cls ≠ "java/lang/invoke/VarHandle" ∧ (parseMethodDescriptor yX2_addPart.desc).map (fun d => d.parameters.length) = some 3 := by decide +kernel
