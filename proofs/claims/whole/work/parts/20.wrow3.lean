def rSet (r : RV) (i v : Int32) : RV := (rA r, rN r, rset (rF r) (rN r) i v, rZ r)
theorem rl_ge {n k : Nat} : n ≤ rl n k ∧ k ≤ rl n k := by
  unfold rl
  split
  · split <;> omega
  · omega
theorem ok_reach {r u : RV} {k : Nat} (hok : rOK r) (h : rN u = rl (rN r) k ∧ rF u = rF r ∧ rZ u = rZ r) (hn : rN r ≤ 400000) (hk : k ≤ 400000) : rOK u := by
  obtain ⟨h1, h2, h3⟩ := h
  obtain ⟨o1, o2, o3⟩ := hok
  have a := rl_le hn hk
  have b := (rl_ge (n := rN r) (k := k)).1
  refine ⟨by rw [h1]; omega, fun j hj => ?_, by rw [h1, h3]; omega⟩
  rw [h2]
  exact o2 j (by rw [h1] at hj; omega)
theorem rset_in {f : Nat → Int32} {n z : Nat} {v : Int32} (hz : z < n) (hn : n < 1000000) : rset f n (nI z) v = upd f z v := by
  rw [rset, if_neg (nI_pos (by omega)), if_neg (nI_ge hz (by omega)), nI_clamp (by omega)]
theorem add_f {r u : RV} {v : Int32} (hok : rOK r) (hn : rN r ≤ 400000) (hz : rZ r < 400000) (h : rN u = rl (rN r) (rZ r + 1) ∧ rF u = rF r ∧ rZ u = rZ r) : rF (rSet u (nI (rZ u)) v) = upd (rF r) (rZ r) v := by
  have a := rl_le hn (show rZ r + 1 ≤ 400000 by omega)
  have b := (rl_ge (n := rN r) (k := rZ r + 1)).2
  show rset (rF u) (rN u) (nI (rZ u)) v = _
  rw [h.1, h.2.1, h.2.2]
  exact rset_in (by omega) (by omega)
set_option maxHeartbeats 4000000 in
set_option maxRecDepth 100000 in
theorem c_X1_set (l : Launch) (D : va_G) (Y : Nat → ClassId) (h : Nat) (r : RV)  (sz : Nat) (i : Int32) (v : Int32) (hok : rOK r) : Met l yX1_set wsX1_set ({ frames := 0, cells := 0, slots := 0, locals := 0 }) (wrPc D Y [.ref h, .int i, .int v] (rW Y h r) sz) (va_Qv (fun u : RV => u = rSet r i v) (wrB D (va_A (rW Y h r) sz) (fun u : RV => rW Y h u)) (va_A (rW Y h r) sz)) (0) (0) (va_A (rW Y h r) sz) := by
  refine wrOf (Qc := fun A => va_Qv (fun u : RV => u = rSet r i v) (wrB D A (fun u : RV => rW Y h u)) A) (cc := cX1_set) (maxL := 3) (ret := none) (own := RX1) (by decide) rfl rfl (Nat.le_of_ble_eq_true rfl) ?_
  intro p e s m below meth c ls A hx hb hr hts hown hml hlocks hin hA hP hD hS hK hl
  have iwX1 : ∀ w ∈ u_ws RX1 TX1 2, w ∈ wsX1_set := fun _ h => List.mem_cons_of_mem _ (List.mem_append_right _ h)
  have hl : lv_has ls 3 [(0, .ref h), (1, .int i), (2, .int v)] := hl
  have hS : va_S A s.heap s.heap [] := hS
  refine lv_iload_n hx hb dX1_set_0 rfl (lv_at hl 1 rfl) ?_
  refine lv_if_lt (tgt := 20) hx hb dX1_set_1 (by decide) (fun c1 => ?_) (fun c1 => ?_)
  · skip
    refine W.widen (k := 0) (n := 0) (by omega) (by omega) ?_
    exact weV (wf := fun u : RV => rW Y h u) (r) hx hb hr hlocks hP hD hS dX1_set_20 (by rw [rSet, rset, if_pos c1])
  · skip
    refine lv_iload_n hx hb dX1_set_4 rfl (lv_at hl 1 rfl) ?_
    refine lv_aload_n hx hb dX1_set_5 rfl (lv_at hl 0 rfl) ?_
    refine va_get (D := D) (ci := 2) (v := .ref (rA r)) (C := RX1) (T := TX1) (N := 2) hx hb hts iwX1 hown hK hP 0 rfl rfl 0 (by decide) (hts (.fieldLink RX1 9 "ObjectRows$Row" "cells" "[I") (by decide +kernel)) (fun _ h9 => h9) rfl dX1_set_6 ?_
    refine va_alen (v := nI (rN r)) hx hb hK hP 1 0 rfl rfl rfl dX1_set_9 ?_
    refine lv_icmp_ge (tgt := 20) hx hb dX1_set_10 (by decide) (fun c2 => ?_) (fun c2 => ?_)
    · skip
      refine W.widen (k := 0) (n := 0) (by omega) (by omega) ?_
      exact weV (wf := fun u : RV => rW Y h u) (r) hx hb hr hlocks hP hD hS dX1_set_20 (by rw [rSet, rset, if_neg c1, if_pos c2])
    · skip
      refine lv_aload_n hx hb dX1_set_13 rfl (lv_at hl 0 rfl) ?_
      refine va_get (D := D) (ci := 2) (v := .ref (rA r)) (C := RX1) (T := TX1) (N := 2) hx hb hts iwX1 hown hK hP 0 rfl rfl 0 (by decide) (hts (.fieldLink RX1 9 "ObjectRows$Row" "cells" "[I") (by decide +kernel)) (fun _ h9 => h9) rfl dX1_set_14 ?_
      refine lv_iload_n hx hb dX1_set_17 rfl (lv_at hl 1 rfl) ?_
      refine lv_iload_n hx hb dX1_set_18 rfl (lv_at hl 2 rfl) ?_
      refine rAst hx hb hK hP hD hS (inbR hok.1 c1 c2) dX1_set_19 (fun H locs hP hD hS => ?_)
      refine W.widen (k := 0) (n := 0) (by omega) (by omega) ?_
      exact weV (wf := fun u : RV => rW Y h u) (rUpd r i v) hx hb hr hlocks hP hD hS dX1_set_20 (by rw [rSet, rset, if_neg c1, if_neg c2])
theorem hdX1_set : yX1_set.cls = RX1 ∧ yX1_set.cls ≠ "java/lang/invoke/MethodHandle" ∧ yX1_set.cls ≠ "java/lang/invoke/VarHandle" ∧ (parseMethodDescriptor yX1_set.desc).map (fun d => d.parameters.length) = some 2 := by decide +kernel
set_option maxHeartbeats 4000000 in
set_option maxRecDepth 100000 in
theorem c_X1_cut (l : Launch) (D : va_G) (Y : Nat → ClassId) (h : Nat) (r : RV) (k : Nat) (sz : Nat)  (hok : rOK r) (hk : k < 2 ^ 31) : Met l yX1_cut wsX1_cut ({ frames := 0, cells := 0, slots := 0, locals := 0 }) (wrPc D Y [.ref h, .int (nI k)] (rW Y h r) sz) (va_Qv (fun u : RV => u = rSetZ r (if rZ r ≤ k then rZ r else k)) (wrB D (va_A (rW Y h r) sz) (fun u : RV => rW Y h u)) (va_A (rW Y h r) sz)) (0) (0) (va_A (rW Y h r) sz) := by
  refine wrOf (Qc := fun A => va_Qv (fun u : RV => u = rSetZ r (if rZ r ≤ k then rZ r else k)) (wrB D A (fun u : RV => rW Y h u)) A) (cc := cX1_cut) (maxL := 2) (ret := none) (own := RX1) (by decide) rfl rfl (Nat.le_of_ble_eq_true rfl) ?_
  intro p e s m below meth c ls A hx hb hr hts hown hml hlocks hin hA hP hD hS hK hl
  have iwX1 : ∀ w ∈ u_ws RX1 TX1 2, w ∈ wsX1_cut := fun _ h => List.mem_cons_of_mem _ (List.mem_append_right _ h)
  have hl : lv_has ls 2 [(0, .ref h), (1, .int (nI k))] := hl
  have hS : va_S A s.heap s.heap [] := hS
  refine lv_iload_n hx hb dX1_cut_0 rfl (lv_at hl 1 rfl) ?_
  refine lv_if_lt (tgt := 17) hx hb dX1_cut_1 (by decide) (fun c1 => absurd c1 (nI_pos hk)) (fun _ => ?_)
  refine lv_iload_n hx hb dX1_cut_4 rfl (lv_at hl 1 rfl) ?_
  refine lv_aload_n hx hb dX1_cut_5 rfl (lv_at hl 0 rfl) ?_
  refine va_get (D := D) (ci := 2) (v := .int (nI (rZ r))) (C := RX1) (T := TX1) (N := 2) hx hb hts iwX1 hown hK hP 0 rfl rfl 1 (by decide) (hts (.fieldLink RX1 13 "ObjectRows$Row" "size" "I") (by decide +kernel)) (fun _ h9 => h9) rfl dX1_cut_6 ?_
  refine lv_icmp_ge (tgt := 17) hx hb dX1_cut_9 (by decide) (fun c2 => ?_) (fun c2 => ?_)
  · skip
    refine W.widen (k := 0) (n := 0) (by omega) (by omega) ?_
    exact weV (wf := fun u : RV => rW Y h u) (r) hx hb hr hlocks hP hD hS dX1_cut_17 (by rw [if_pos ((nI_leI (by have := hok.1; have := hok.2.2; omega) hk).mp c2)])
  · skip
    refine lv_aload_n hx hb dX1_cut_12 rfl (lv_at hl 0 rfl) ?_
    refine lv_iload_n hx hb dX1_cut_13 rfl (lv_at hl 1 rfl) ?_
    refine rPutZ hx hb hts iwX1 hown hK hP hD hS (hts (.fieldLink RX1 13 "ObjectRows$Row" "size" "I") (by decide +kernel)) (k) (rfl) dX1_cut_14 (fun H locs hP hD hS => ?_)
    refine W.widen (k := 0) (n := 0) (by omega) (by omega) ?_
    exact weV (wf := fun u : RV => rW Y h u) (rSetZ r k) hx hb hr hlocks hP hD hS dX1_cut_17 (by rw [if_neg (fun q => c2 (nI_le q hk))])
theorem hdX1_cut : yX1_cut.cls = RX1 ∧ yX1_cut.cls ≠ "java/lang/invoke/MethodHandle" ∧ yX1_cut.cls ≠ "java/lang/invoke/VarHandle" ∧ (parseMethodDescriptor yX1_cut.desc).map (fun d => d.parameters.length) = some 1 := by decide +kernel
set_option maxHeartbeats 4000000 in
set_option maxRecDepth 100000 in
theorem c_X1_add (l : Launch) (D : va_G) (Y : Nat → ClassId) (h : Nat) (r : RV)  (sz : Nat) (v : Int32) (hok : rOK r) (hn : rN r ≤ 400000) (hz : rZ r < 400000) : Met l yX1_add wsX1_add ({ frames := 3, cells := 1, slots := rc (rN r) (rZ r + 1), locals := 83 }) (wrPc D Y [.ref h, .int v] (rW Y h r) sz) (va_Qv (fun u : RV => rN u = rl (rN r) (rZ r + 1) ∧ rF u = upd (rF r) (rZ r) v ∧ rZ u = rZ r + 1) (wrB D (va_A (rW Y h r) sz) (fun u : RV => rW Y h u)) (va_A (rW Y h r) sz)) (1) (rc (rN r) (rZ r + 1)) (va_A (rW Y h r) sz) := by
  refine wrOf (Qc := fun A => va_Qv (fun u : RV => rN u = rl (rN r) (rZ r + 1) ∧ rF u = upd (rF r) (rZ r) v ∧ rZ u = rZ r + 1) (wrB D A (fun u : RV => rW Y h u)) A) (cc := cX1_add) (maxL := 2) (ret := none) (own := RX1) (by decide) rfl rfl (Nat.le_of_ble_eq_true rfl) ?_
  intro p e s m below meth c ls A hx hb hr hts hown hml hlocks hin hA hP hD hS hK hl
  have iwX1 : ∀ w ∈ u_ws RX1 TX1 2, w ∈ wsX1_add := fun _ h => List.mem_cons_of_mem _ (List.mem_append_right _ h)
  have hl : lv_has ls 2 [(0, .ref h), (1, .int v)] := hl
  have hS : va_S A s.heap s.heap [] := hS
  refine lv_aload_n hx hb dX1_add_0 rfl (lv_at hl 0 rfl) ?_
  refine lv_aload_n hx hb dX1_add_1 rfl (lv_at hl 0 rfl) ?_
  refine va_get (D := D) (ci := 2) (v := .int (nI (rZ r))) (C := RX1) (T := TX1) (N := 2) hx hb hts iwX1 hown hK hP 0 rfl rfl 1 (by decide) (hts (.fieldLink RX1 13 "ObjectRows$Row" "size" "I") (by decide +kernel)) (fun _ h9 => h9) rfl dX1_add_2 ?_
  refine lv_iconst (v := 1) hx hb dX1_add_5 (by decide) ?_
  refine lv_iadd hx hb dX1_add_6 ?_
  refine lv_toE (y := nI (rZ r + 1)) (nI_1 _) ?_
  refine wcV (As := [.int (nI (rZ r + 1))]) (rest := []) ⟨hx, hb, hml, hown, hts⟩ (c_X1_reach l D Y h r (rZ r + 1) _ hok hn (by omega)) (cwV 1 hts gX1_add_X1_reach rfl rfl rfl hdX1_reach ⟨Nat.le_of_ble_eq_true rfl, Nat.le_of_ble_eq_true rfl⟩) hP hD hK hS hA 0 2 rfl rfl rfl hl.1 rfl (Nat.le_of_ble_eq_true rfl) dX1_add_7 ⟨by dsimp only; omega, by dsimp only; omega⟩ (frSelf hD hS hA) (fun u2 H locs hu2 hP hD hS => ?_)
  have hP : va_P D vwCl (rW Y h u2) H := hP
  have hD : va_D A (rW Y h u2) := hD
  refine lv_aload_n hx hb dX1_add_10 rfl (lv_at hl 0 rfl) ?_
  refine lv_aload_n hx hb dX1_add_11 rfl (lv_at hl 0 rfl) ?_
  refine va_get (D := D) (ci := 2) (v := .int (nI (rZ u2))) (C := RX1) (T := TX1) (N := 2) hx hb hts iwX1 hown hK hP 0 rfl rfl 1 (by decide) (hts (.fieldLink RX1 13 "ObjectRows$Row" "size" "I") (by decide +kernel)) (fun _ h9 => h9) rfl dX1_add_12 ?_
  refine lv_iload_n hx hb dX1_add_15 rfl (lv_at hl 1 rfl) ?_
  refine wcV (As := [.int (nI (rZ u2)), .int v]) (rest := []) ⟨hx, hb, hml, hown, hts⟩ (c_X1_set l D Y h u2 _ (nI (rZ u2)) v (ok_reach hok hu2 hn (by omega))) (cwV 2 hts gX1_add_X1_set rfl rfl rfl hdX1_set ⟨Nat.le_of_ble_eq_true rfl, Nat.le_of_ble_eq_true rfl⟩) hP hD hK hS hA 0 2 rfl rfl rfl hl.1 rfl (Nat.le_of_ble_eq_true rfl) dX1_add_16 ⟨by dsimp only; omega, by dsimp only; omega⟩ (frSelf hD hS hA) (fun u3 H locs hu3 hP hD hS => ?_)
  have hP : va_P D vwCl (rW Y h u3) H := hP
  have hD : va_D A (rW Y h u3) := hD
  refine lv_aload_n hx hb dX1_add_19 rfl (lv_at hl 0 rfl) ?_
  refine lv_dup hx hb dX1_add_20 rfl ?_
  refine va_get (D := D) (ci := 2) (v := .int (nI (rZ u3))) (C := RX1) (T := TX1) (N := 2) hx hb hts iwX1 hown hK hP 0 rfl rfl 1 (by decide) (hts (.fieldLink RX1 13 "ObjectRows$Row" "size" "I") (by decide +kernel)) (fun _ h9 => h9) rfl dX1_add_21 ?_
  refine lv_iconst (v := 1) hx hb dX1_add_24 (by decide) ?_
  refine lv_iadd hx hb dX1_add_25 ?_
  refine rPutZ hx hb hts iwX1 hown hK hP hD hS (hts (.fieldLink RX1 13 "ObjectRows$Row" "size" "I") (by decide +kernel)) (rZ u3 + 1) (nI_1 _) dX1_add_26 (fun H locs hP hD hS => ?_)
  refine W.widen (k := 1) (n := rc (rN r) (rZ r + 1)) (by omega) (by omega) ?_
  exact weV (wf := fun u : RV => rW Y h u) (rSetZ u3 (rZ u3 + 1)) hx hb hr hlocks hP hD hS dX1_add_29 (⟨by rw [hu3]; exact hu2.1, by rw [hu3]; exact add_f hok hn hz hu2, by show rZ u3 + 1 = _; rw [hu3]; show rZ u2 + 1 = _; rw [hu2.2.2]⟩)
theorem hdX1_add : yX1_add.cls = RX1 ∧ yX1_add.cls ≠ "java/lang/invoke/MethodHandle" ∧ yX1_add.cls ≠ "java/lang/invoke/VarHandle" ∧ (parseMethodDescriptor yX1_add.desc).map (fun d => d.parameters.length) = some 1 := by decide +kernel
