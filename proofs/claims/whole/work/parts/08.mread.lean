set_option maxHeartbeats 4000000 in
set_option maxRecDepth 100000 in
theorem c_X3_within (l : Launch) (v : Int32) (a : Int32) (b : Int32) : Met l yX3_within wsX3_within ({ frames := 0, cells := 0, slots := 0, locals := 0 }) (stPc [.int v, .int a, .int b]) (vp_Si (fun ans => ans = bI (qWithin v a b))) 0 0 (fun _ => False) := by
  refine stOf (cc := cX3_within) (maxL := 3) (ret := (some .boolean)) (own := RX3) (by decide) rfl rfl (Nat.le_of_ble_eq_true rfl) ?_
  intro p e s m below meth c ls hx hb hr hts hown hml hlocks hl
  have hl : lv_has ls 3 [(0, .int v), (1, .int a), (2, .int b)] := hl
  refine lv_iload_n hx hb dX3_within_0 rfl (lv_at hl 0 rfl) ?_
  refine lv_iload_n hx hb dX3_within_1 rfl (lv_at hl 1 rfl) ?_
  refine lv_icmp_lt (tgt := 14) hx hb dX3_within_2 (by decide) (fun c1 => ?_) (fun c1 => ?_)
  · skip
    refine lv_iconst (v := 0) hx hb dX3_within_14 (by decide) ?_
    exact reZ hx hb hr hlocks dX3_within_15 (by first | exact Or.inl rfl | exact Or.inr rfl | exact bI_01 _ | (rename_i h9; rw [h9]; exact bI_01 _) | (subst_vars; exact bI_01 _)) (by first | (simp only [qWithin, bI, c1, decide_true, decide_false, Bool.not_true, Bool.not_false, Bool.and_true, Bool.true_and, Bool.and_false, Bool.false_and, Bool.or_true, Bool.true_or, Bool.or_false, Bool.false_or, Bool.and_self, Bool.or_self, if_true, if_false, ite_true, ite_false, Bool.false_eq_true, reduceIte, not_true_eq_false, not_false_eq_true, and_true, true_and, and_false, false_and, or_true, true_or, or_false, false_or, and_self, or_self, eq_self, decide_eq_true_eq, Bool.true_eq_false, reduceCtorEq, ne_eq]; done) | (simp [qWithin, bI, c1, Int32.not_le.mpr c1]; done))
  · skip
    refine lv_iload_n hx hb dX3_within_5 rfl (lv_at hl 0 rfl) ?_
    refine lv_iload_n hx hb dX3_within_6 rfl (lv_at hl 2 rfl) ?_
    refine lv_icmp_gt (tgt := 14) hx hb dX3_within_7 (by decide) (fun c2 => ?_) (fun c2 => ?_)
    · skip
      refine lv_iconst (v := 0) hx hb dX3_within_14 (by decide) ?_
      exact reZ hx hb hr hlocks dX3_within_15 (by first | exact Or.inl rfl | exact Or.inr rfl | exact bI_01 _ | (rename_i h9; rw [h9]; exact bI_01 _) | (subst_vars; exact bI_01 _)) (by first | (simp only [qWithin, bI, c1, c2, decide_true, decide_false, Bool.not_true, Bool.not_false, Bool.and_true, Bool.true_and, Bool.and_false, Bool.false_and, Bool.or_true, Bool.true_or, Bool.or_false, Bool.false_or, Bool.and_self, Bool.or_self, if_true, if_false, ite_true, ite_false, Bool.false_eq_true, reduceIte, not_true_eq_false, not_false_eq_true, and_true, true_and, and_false, false_and, or_true, true_or, or_false, false_or, and_self, or_self, eq_self, decide_eq_true_eq, Bool.true_eq_false, reduceCtorEq, ne_eq]; done) | (simp [qWithin, bI, c1, c2, Int32.not_lt.mp c1, Int32.not_le.mpr c2]; done))
    · skip
      refine lv_iconst (v := 1) hx hb dX3_within_10 (by decide) ?_
      refine lv_goto (tgt := 15) hx hb dX3_within_11 (by decide) ?_
      exact reZ hx hb hr hlocks dX3_within_15 (by first | exact Or.inl rfl | exact Or.inr rfl | exact bI_01 _ | (rename_i h9; rw [h9]; exact bI_01 _) | (subst_vars; exact bI_01 _)) (by first | (simp only [qWithin, bI, c1, c2, decide_true, decide_false, Bool.not_true, Bool.not_false, Bool.and_true, Bool.true_and, Bool.and_false, Bool.false_and, Bool.or_true, Bool.true_or, Bool.or_false, Bool.false_or, Bool.and_self, Bool.or_self, if_true, if_false, ite_true, ite_false, Bool.false_eq_true, reduceIte, not_true_eq_false, not_false_eq_true, and_true, true_and, and_false, false_and, or_true, true_or, or_false, false_or, and_self, or_self, eq_self, decide_eq_true_eq, Bool.true_eq_false, reduceCtorEq, ne_eq]; done) | (simp [qWithin, bI, c1, c2, Int32.not_lt.mp c1, Int32.not_lt.mp c2]; done))
theorem hdX3_within : yX3_within.cls ≠ "java/lang/invoke/MethodHandle" ∧ yX3_within.cls ≠ "java/lang/invoke/VarHandle" ∧ (parseMethodDescriptor yX3_within.desc).map (fun d => d.parameters.length) = some 3 := by decide +kernel
set_option maxHeartbeats 4000000 in
set_option maxRecDepth 100000 in
theorem c_X3_coded (l : Launch) (k : Int32) (v : Int32) : Met l yX3_coded wsX3_coded ({ frames := 0, cells := 0, slots := 0, locals := 0 }) (stPc [.int k, .int v]) (vp_Sl (fun ans => ans = qCoded k v)) 0 0 (fun _ => False) := by
  refine stOf (cc := cX3_coded) (maxL := 2) (ret := (some .long)) (own := RX3) (by decide) rfl rfl (Nat.le_of_ble_eq_true rfl) ?_
  intro p e s m below meth c ls hx hb hr hts hown hml hlocks hl
  have hl : lv_has ls 2 [(0, .int k), (1, .int v)] := hl
  refine lv_iload_n hx hb dX3_coded_0 rfl (lv_at hl 0 rfl) ?_
  refine lv_i2l hx hb dX3_coded_1 rfl ?_
  refine lv_bipush (v := 40) hx hb dX3_coded_2 (by decide) ?_
  refine lv_lshl hx hb dX3_coded_4 rfl ?_
  refine lv_iload_n hx hb dX3_coded_5 rfl (lv_at hl 1 rfl) ?_
  refine lv_i2l hx hb dX3_coded_6 rfl ?_
  refine lv_ldc2 (v := 4294967295) hx hb hown (hts (.constantLong RX3 107 4294967295) (by decide +kernel)) dX3_coded_7 ?_
  refine lv_land hx hb dX3_coded_10 ?_
  refine lv_lor hx hb dX3_coded_11 ?_
  exact reL hx hb hr hlocks dX3_coded_12 (by first | (simp only [qCoded, decide_true, decide_false, Bool.not_true, Bool.not_false, Bool.and_true, Bool.true_and, Bool.and_false, Bool.false_and, Bool.or_true, Bool.true_or, Bool.or_false, Bool.false_or, Bool.and_self, Bool.or_self, if_true, if_false, ite_true, ite_false, Bool.false_eq_true, reduceIte, not_true_eq_false, not_false_eq_true, and_true, true_and, and_false, false_and, or_true, true_or, or_false, false_or, and_self, or_self, eq_self, decide_eq_true_eq, Bool.true_eq_false, reduceCtorEq, ne_eq]; done) | (simp [qCoded]; done))
theorem hdX3_coded : yX3_coded.cls ≠ "java/lang/invoke/MethodHandle" ∧ yX3_coded.cls ≠ "java/lang/invoke/VarHandle" ∧ (parseMethodDescriptor yX3_coded.desc).map (fun d => d.parameters.length) = some 2 := by decide +kernel
set_option maxHeartbeats 4000000 in
set_option maxRecDepth 100000 in
theorem c_X3_thrown (l : Launch) (D : va_G) (Y : Nat → ClassId) (ad : MA) (t : MS)   : Met l yX3_thrown wsX3_thrown ({ frames := 0, cells := 0, slots := 0, locals := 0 }) (rdPc D Y [.ref (mO ad)] (mW Y ad t)) (vp_Si (fun ans => ans = mThr t)) 0 0 (fun _ => False) := by
  refine rdOf (cc := cX3_thrown) (maxL := 1) (ret := (some .int)) (own := RX3) (by decide) rfl rfl (Nat.le_of_ble_eq_true rfl) ?_
  intro p e s m below meth c ls hx hb hr hts hown hml hlocks hP hK hl
  have iwX3 : ∀ w ∈ u_ws RX3 TX3 19, w ∈ wsX3_thrown := fun _ h => List.mem_cons_of_mem _ (List.mem_append_right _ h)
  have hl : lv_has ls 1 [(0, .ref (mO ad))] := hl
  refine lv_aload_n hx hb dX3_thrown_0 rfl (lv_at hl 0 rfl) ?_
  refine va_get (D := D) (ci := 4) (v := .int (mThr t)) (C := RX3) (T := TX3) (N := 19) hx hb hts iwX3 hown hK hP 0 rfl rfl 0 (by decide) (hts (.fieldLink RX3 65 "ObjectRowsModel" "thrown" "I") (by decide +kernel)) (fun _ h9 => h9) rfl dX3_thrown_1 ?_
  exact reI hx hb hr hlocks dX3_thrown_4 (by rfl)
theorem hdX3_thrown : yX3_thrown.cls = RX3 ∧ yX3_thrown.cls ≠ "java/lang/invoke/MethodHandle" ∧ yX3_thrown.cls ≠ "java/lang/invoke/VarHandle" ∧ (parseMethodDescriptor yX3_thrown.desc).map (fun d => d.parameters.length) = some 0 := by decide +kernel
set_option maxHeartbeats 4000000 in
set_option maxRecDepth 100000 in
theorem c_X3_isObject (l : Launch) (D : va_G) (Y : Nat → ClassId) (ad : MA) (t : MS) (o : Int32)  : Met l yX3_isObject wsX3_isObject ({ frames := 0, cells := 0, slots := 0, locals := 0 }) (rdPc D Y [.ref (mO ad), .int o] (mW Y ad t)) (vp_Si (fun ans => ans = bI (qObj t o))) 0 0 (fun _ => False) := by
  refine rdOf (cc := cX3_isObject) (maxL := 2) (ret := (some .boolean)) (own := RX3) (by decide) rfl rfl (Nat.le_of_ble_eq_true rfl) ?_
  intro p e s m below meth c ls hx hb hr hts hown hml hlocks hP hK hl
  have iwX3 : ∀ w ∈ u_ws RX3 TX3 19, w ∈ wsX3_isObject := fun _ h => List.mem_cons_of_mem _ (List.mem_append_right _ h)
  have hl : lv_has ls 2 [(0, .ref (mO ad)), (1, .int o)] := hl
  refine lv_iload_n hx hb dX3_isObject_0 rfl (lv_at hl 1 rfl) ?_
  refine lv_if_lt (tgt := 16) hx hb dX3_isObject_1 (by decide) (fun c1 => ?_) (fun c1 => ?_)
  · skip
    refine lv_iconst (v := 0) hx hb dX3_isObject_16 (by decide) ?_
    exact reZ hx hb hr hlocks dX3_isObject_17 (by first | exact Or.inl rfl | exact Or.inr rfl | exact bI_01 _ | (rename_i h9; rw [h9]; exact bI_01 _) | (subst_vars; exact bI_01 _)) (by first | (simp only [qObj, bI, c1, decide_true, decide_false, Bool.not_true, Bool.not_false, Bool.and_true, Bool.true_and, Bool.and_false, Bool.false_and, Bool.or_true, Bool.true_or, Bool.or_false, Bool.false_or, Bool.and_self, Bool.or_self, if_true, if_false, ite_true, ite_false, Bool.false_eq_true, reduceIte, not_true_eq_false, not_false_eq_true, and_true, true_and, and_false, false_and, or_true, true_or, or_false, false_or, and_self, or_self, eq_self, decide_eq_true_eq, Bool.true_eq_false, reduceCtorEq, ne_eq]; done) | (simp [qObj, bI, c1, Int32.not_le.mpr c1]; done))
  · skip
    refine lv_iload_n hx hb dX3_isObject_4 rfl (lv_at hl 1 rfl) ?_
    refine lv_aload_n hx hb dX3_isObject_5 rfl (lv_at hl 0 rfl) ?_
    refine va_get (D := D) (ci := 4) (v := .int (mMany t)) (C := RX3) (T := TX3) (N := 19) hx hb hts iwX3 hown hK hP 0 rfl rfl 1 (by decide) (hts (.fieldLink RX3 7 "ObjectRowsModel" "many" "I") (by decide +kernel)) (fun _ h9 => h9) rfl dX3_isObject_6 ?_
    refine lv_icmp_ge (tgt := 16) hx hb dX3_isObject_9 (by decide) (fun c2 => ?_) (fun c2 => ?_)
    · skip
      refine lv_iconst (v := 0) hx hb dX3_isObject_16 (by decide) ?_
      exact reZ hx hb hr hlocks dX3_isObject_17 (by first | exact Or.inl rfl | exact Or.inr rfl | exact bI_01 _ | (rename_i h9; rw [h9]; exact bI_01 _) | (subst_vars; exact bI_01 _)) (by first | (simp only [qObj, bI, c1, c2, decide_true, decide_false, Bool.not_true, Bool.not_false, Bool.and_true, Bool.true_and, Bool.and_false, Bool.false_and, Bool.or_true, Bool.true_or, Bool.or_false, Bool.false_or, Bool.and_self, Bool.or_self, if_true, if_false, ite_true, ite_false, Bool.false_eq_true, reduceIte, not_true_eq_false, not_false_eq_true, and_true, true_and, and_false, false_and, or_true, true_or, or_false, false_or, and_self, or_self, eq_self, decide_eq_true_eq, Bool.true_eq_false, reduceCtorEq, ne_eq]; done) | (simp [qObj, bI, c1, c2, Int32.not_lt.mp c1, Int32.not_lt.mpr c2]; done))
    · skip
      refine lv_iconst (v := 1) hx hb dX3_isObject_12 (by decide) ?_
      refine lv_goto (tgt := 17) hx hb dX3_isObject_13 (by decide) ?_
      exact reZ hx hb hr hlocks dX3_isObject_17 (by first | exact Or.inl rfl | exact Or.inr rfl | exact bI_01 _ | (rename_i h9; rw [h9]; exact bI_01 _) | (subst_vars; exact bI_01 _)) (by first | (simp only [qObj, bI, c1, c2, decide_true, decide_false, Bool.not_true, Bool.not_false, Bool.and_true, Bool.true_and, Bool.and_false, Bool.false_and, Bool.or_true, Bool.true_or, Bool.or_false, Bool.false_or, Bool.and_self, Bool.or_self, if_true, if_false, ite_true, ite_false, Bool.false_eq_true, reduceIte, not_true_eq_false, not_false_eq_true, and_true, true_and, and_false, false_and, or_true, true_or, or_false, false_or, and_self, or_self, eq_self, decide_eq_true_eq, Bool.true_eq_false, reduceCtorEq, ne_eq]; done) | (simp [qObj, bI, c1, c2, Int32.not_lt.mp c1, Int32.not_le.mp c2]; done))
theorem hdX3_isObject : yX3_isObject.cls = RX3 ∧ yX3_isObject.cls ≠ "java/lang/invoke/MethodHandle" ∧ yX3_isObject.cls ≠ "java/lang/invoke/VarHandle" ∧ (parseMethodDescriptor yX3_isObject.desc).map (fun d => d.parameters.length) = some 1 := by decide +kernel
set_option maxHeartbeats 4000000 in
set_option maxRecDepth 100000 in
theorem c_X3_isView (l : Launch) (D : va_G) (Y : Nat → ClassId) (ad : MA) (t : MS) (o : Int32) (ho : vp_in o 100) : Met l yX3_isView wsX3_isView ({ frames := 1, cells := 0, slots := 0, locals := 22 }) (rdPc D Y [.ref (mO ad), .int o] (mW Y ad t)) (vp_Si (fun ans => ans = bI (qView t o))) 0 0 (fun _ => False) := by
  refine rdOf (cc := cX3_isView) (maxL := 2) (ret := (some .boolean)) (own := RX3) (by decide) rfl rfl (Nat.le_of_ble_eq_true rfl) ?_
  intro p e s m below meth c ls hx hb hr hts hown hml hlocks hP hK hl
  have iwX3 : ∀ w ∈ u_ws RX3 TX3 19, w ∈ wsX3_isView := fun _ h => List.mem_cons_of_mem _ (List.mem_append_right _ h)
  have hl : lv_has ls 2 [(0, .ref (mO ad)), (1, .int o)] := hl
  refine lv_aload_n hx hb dX3_isView_0 rfl (lv_at hl 0 rfl) ?_
  refine va_get (D := D) (ci := 4) (v := .ref (mH ad 0)) (C := RX3) (T := TX3) (N := 19) hx hb hts iwX3 hown hK hP 0 rfl rfl 4 (by decide) (hts (.fieldLink RX3 16 "ObjectRowsModel" "kinds" "[I") (by decide +kernel)) (fun _ h9 => h9) rfl dX3_isView_1 ?_
  refine lv_iload_n hx hb dX3_isView_4 rfl (lv_at hl 1 rfl) ?_
  refine va_iald hx hb hK hP 1 0 rfl rfl ho dX3_isView_5 ?_
  refine lv_topi (fun y1 ey1 => ?_)
  obtain rfl : y1 = mK t o := ey1
  refine lv_iconst (v := 4) hx hb dX3_isView_6 (by decide) ?_
  refine lv_bipush (v := 6) hx hb dX3_isView_7 (by decide) ?_
  refine scI (As := [.int (mK t o), .int 4, .int 6]) (rest := []) ⟨hx, hb, hml, hown, hts⟩ (c_X3_within l (mK t o) 4 6) (va_cwS 3 hts gX3_isView_X3_within rfl rfl rfl hdX3_within ⟨Nat.le_of_ble_eq_true rfl, Nat.le_of_ble_eq_true rfl⟩) rfl hl.1 rfl (Nat.le_of_ble_eq_true rfl) dX3_isView_9 ⟨(Nat.zero_le _), (Nat.zero_le _)⟩ (fun r2 hr2 => ?_)
  replace hr2 : r2 = bI (qWithin (mK t o) 4 6) := hr2
  cases b3 : qWithin (mK t o) 4 6
  · replace hr2 : r2 = 0 := by rw [hr2, b3]; rfl
    subst hr2
    exact reZ hx hb hr hlocks dX3_isView_12 (by first | exact Or.inl rfl | exact Or.inr rfl | exact bI_01 _ | (rename_i h9; rw [h9]; exact bI_01 _) | (subst_vars; exact bI_01 _)) (by first | (simp only [qView, bI, b3, decide_true, decide_false, Bool.not_true, Bool.not_false, Bool.and_true, Bool.true_and, Bool.and_false, Bool.false_and, Bool.or_true, Bool.true_or, Bool.or_false, Bool.false_or, Bool.and_self, Bool.or_self, if_true, if_false, ite_true, ite_false, Bool.false_eq_true, reduceIte, not_true_eq_false, not_false_eq_true, and_true, true_and, and_false, false_and, or_true, true_or, or_false, false_or, and_self, or_self, eq_self, decide_eq_true_eq, Bool.true_eq_false, reduceCtorEq, ne_eq]; done) | (simp [qView, bI, b3]; done))
  · replace hr2 : r2 = 1 := by rw [hr2, b3]; rfl
    subst hr2
    exact reZ hx hb hr hlocks dX3_isView_12 (by first | exact Or.inl rfl | exact Or.inr rfl | exact bI_01 _ | (rename_i h9; rw [h9]; exact bI_01 _) | (subst_vars; exact bI_01 _)) (by first | (simp only [qView, bI, b3, decide_true, decide_false, Bool.not_true, Bool.not_false, Bool.and_true, Bool.true_and, Bool.and_false, Bool.false_and, Bool.or_true, Bool.true_or, Bool.or_false, Bool.false_or, Bool.and_self, Bool.or_self, if_true, if_false, ite_true, ite_false, Bool.false_eq_true, reduceIte, not_true_eq_false, not_false_eq_true, and_true, true_and, and_false, false_and, or_true, true_or, or_false, false_or, and_self, or_self, eq_self, decide_eq_true_eq, Bool.true_eq_false, reduceCtorEq, ne_eq]; done) | (simp [qView, bI, b3]; done))
theorem hdX3_isView : yX3_isView.cls = RX3 ∧ yX3_isView.cls ≠ "java/lang/invoke/MethodHandle" ∧ yX3_isView.cls ≠ "java/lang/invoke/VarHandle" ∧ (parseMethodDescriptor yX3_isView.desc).map (fun d => d.parameters.length) = some 1 := by decide +kernel
set_option maxHeartbeats 4000000 in
set_option maxRecDepth 100000 in
theorem c_X3_holder (l : Launch) (D : va_G) (Y : Nat → ClassId) (ad : MA) (t : MS) (o : Int32) (ho : vp_in o 100) : Met l yX3_holder wsX3_holder ({ frames := 0, cells := 0, slots := 0, locals := 0 }) (rdPc D Y [.ref (mO ad), .int o] (mW Y ad t)) (vp_Si (fun ans => ans = qHolder t o)) 0 0 (fun _ => False) := by
  refine rdOf (cc := cX3_holder) (maxL := 2) (ret := (some .int)) (own := RX3) (by decide) rfl rfl (Nat.le_of_ble_eq_true rfl) ?_
  intro p e s m below meth c ls hx hb hr hts hown hml hlocks hP hK hl
  have iwX3 : ∀ w ∈ u_ws RX3 TX3 19, w ∈ wsX3_holder := fun _ h => List.mem_cons_of_mem _ (List.mem_append_right _ h)
  have hl : lv_has ls 2 [(0, .ref (mO ad)), (1, .int o)] := hl
  refine lv_aload_n hx hb dX3_holder_0 rfl (lv_at hl 0 rfl) ?_
  refine va_get (D := D) (ci := 4) (v := .ref (mH ad 0)) (C := RX3) (T := TX3) (N := 19) hx hb hts iwX3 hown hK hP 0 rfl rfl 4 (by decide) (hts (.fieldLink RX3 16 "ObjectRowsModel" "kinds" "[I") (by decide +kernel)) (fun _ h9 => h9) rfl dX3_holder_1 ?_
  refine lv_iload_n hx hb dX3_holder_4 rfl (lv_at hl 1 rfl) ?_
  refine va_iald hx hb hK hP 1 0 rfl rfl ho dX3_holder_5 ?_
  refine lv_topi (fun y1 ey1 => ?_)
  obtain rfl : y1 = mK t o := ey1
  refine lv_bipush (v := 7) hx hb dX3_holder_6 (by decide) ?_
  refine lv_icmp_ne (tgt := 20) hx hb dX3_holder_8 (by decide) (fun c2 => ?_) (fun c2 => ?_)
  · skip
    refine lv_iload_n hx hb dX3_holder_20 rfl (lv_at hl 1 rfl) ?_
    exact reI hx hb hr hlocks dX3_holder_21 (by first | (simp only [qHolder, c2, decide_true, decide_false, Bool.not_true, Bool.not_false, Bool.and_true, Bool.true_and, Bool.and_false, Bool.false_and, Bool.or_true, Bool.true_or, Bool.or_false, Bool.false_or, Bool.and_self, Bool.or_self, if_true, if_false, ite_true, ite_false, Bool.false_eq_true, reduceIte, not_true_eq_false, not_false_eq_true, and_true, true_and, and_false, false_and, or_true, true_or, or_false, false_or, and_self, or_self, eq_self, decide_eq_true_eq, Bool.true_eq_false, reduceCtorEq, ne_eq]; done) | (simp [qHolder, c2]; done))
  · skip
    refine lv_aload_n hx hb dX3_holder_11 rfl (lv_at hl 0 rfl) ?_
    refine va_get (D := D) (ci := 4) (v := .ref (mH ad 1)) (C := RX3) (T := TX3) (N := 19) hx hb hts iwX3 hown hK hP 0 rfl rfl 5 (by decide) (hts (.fieldLink RX3 20 "ObjectRowsModel" "numbers" "[I") (by decide +kernel)) (fun _ h9 => h9) rfl dX3_holder_12 ?_
    refine lv_iload_n hx hb dX3_holder_15 rfl (lv_at hl 1 rfl) ?_
    refine va_iald hx hb hK hP 2 0 rfl rfl ho dX3_holder_16 ?_
    refine lv_topi (fun y3 ey3 => ?_)
    obtain rfl : y3 = mNu t o := ey3
    refine lv_goto (tgt := 21) hx hb dX3_holder_17 (by decide) ?_
    exact reI hx hb hr hlocks dX3_holder_21 (by first | (simp only [qHolder, c2, decide_true, decide_false, Bool.not_true, Bool.not_false, Bool.and_true, Bool.true_and, Bool.and_false, Bool.false_and, Bool.or_true, Bool.true_or, Bool.or_false, Bool.false_or, Bool.and_self, Bool.or_self, if_true, if_false, ite_true, ite_false, Bool.false_eq_true, reduceIte, not_true_eq_false, not_false_eq_true, and_true, true_and, and_false, false_and, or_true, true_or, or_false, false_or, and_self, or_self, eq_self, decide_eq_true_eq, Bool.true_eq_false, reduceCtorEq, ne_eq]; done) | (simp [qHolder, c2]; done) | (simp only [qHolder, eq_true c2, decide_true, decide_false, Bool.not_true, Bool.not_false, Bool.and_true, Bool.true_and, Bool.and_false, Bool.false_and, Bool.or_true, Bool.true_or, Bool.or_false, Bool.false_or, Bool.and_self, Bool.or_self, if_true, if_false, ite_true, ite_false, Bool.false_eq_true, reduceIte, not_true_eq_false, not_false_eq_true, and_true, true_and, and_false, false_and, or_true, true_or, or_false, false_or, and_self, or_self, eq_self, decide_eq_true_eq, Bool.true_eq_false, reduceCtorEq, ne_eq]; done) | (simp [qHolder, eq_true c2]; done))
theorem hdX3_holder : yX3_holder.cls = RX3 ∧ yX3_holder.cls ≠ "java/lang/invoke/MethodHandle" ∧ yX3_holder.cls ≠ "java/lang/invoke/VarHandle" ∧ (parseMethodDescriptor yX3_holder.desc).map (fun d => d.parameters.length) = some 1 := by decide +kernel
set_option maxHeartbeats 4000000 in
set_option maxRecDepth 100000 in
theorem c_X3_hasAccess (l : Launch) (D : va_G) (Y : Nat → ClassId) (ad : MA) (t : MS) (o : Int32) (ho : vp_in o 100) : Met l yX3_hasAccess wsX3_hasAccess ({ frames := 1, cells := 0, slots := 0, locals := 22 }) (rdPc D Y [.ref (mO ad), .int o] (mW Y ad t)) (vp_Si (fun ans => ans = bI (qHasAcc t o))) 0 0 (fun _ => False) := by
  refine rdOf (cc := cX3_hasAccess) (maxL := 2) (ret := (some .boolean)) (own := RX3) (by decide) rfl rfl (Nat.le_of_ble_eq_true rfl) ?_
  intro p e s m below meth c ls hx hb hr hts hown hml hlocks hP hK hl
  have iwX3 : ∀ w ∈ u_ws RX3 TX3 19, w ∈ wsX3_hasAccess := fun _ h => List.mem_cons_of_mem _ (List.mem_append_right _ h)
  have hl : lv_has ls 2 [(0, .ref (mO ad)), (1, .int o)] := hl
  refine lv_aload_n hx hb dX3_hasAccess_0 rfl (lv_at hl 0 rfl) ?_
  refine va_get (D := D) (ci := 4) (v := .ref (mH ad 0)) (C := RX3) (T := TX3) (N := 19) hx hb hts iwX3 hown hK hP 0 rfl rfl 4 (by decide) (hts (.fieldLink RX3 16 "ObjectRowsModel" "kinds" "[I") (by decide +kernel)) (fun _ h9 => h9) rfl dX3_hasAccess_1 ?_
  refine lv_iload_n hx hb dX3_hasAccess_4 rfl (lv_at hl 1 rfl) ?_
  refine va_iald hx hb hK hP 1 0 rfl rfl ho dX3_hasAccess_5 ?_
  refine lv_topi (fun y1 ey1 => ?_)
  obtain rfl : y1 = mK t o := ey1
  refine lv_iconst (v := 4) hx hb dX3_hasAccess_6 (by decide) ?_
  refine lv_bipush (v := 7) hx hb dX3_hasAccess_7 (by decide) ?_
  refine scI (As := [.int (mK t o), .int 4, .int 7]) (rest := []) ⟨hx, hb, hml, hown, hts⟩ (c_X3_within l (mK t o) 4 7) (va_cwS 3 hts gX3_hasAccess_X3_within rfl rfl rfl hdX3_within ⟨Nat.le_of_ble_eq_true rfl, Nat.le_of_ble_eq_true rfl⟩) rfl hl.1 rfl (Nat.le_of_ble_eq_true rfl) dX3_hasAccess_9 ⟨(Nat.zero_le _), (Nat.zero_le _)⟩ (fun r2 hr2 => ?_)
  replace hr2 : r2 = bI (qWithin (mK t o) 4 7) := hr2
  cases b3 : qWithin (mK t o) 4 7
  · replace hr2 : r2 = 0 := by rw [hr2, b3]; rfl
    subst hr2
    refine lv_if_ne (tgt := 26) hx hb dX3_hasAccess_12 (by decide) (fun c4 => absurd (by decide) c4) (fun _ => ?_)
    refine lv_aload_n hx hb dX3_hasAccess_15 rfl (lv_at hl 0 rfl) ?_
    refine va_get (D := D) (ci := 4) (v := .ref (mH ad 0)) (C := RX3) (T := TX3) (N := 19) hx hb hts iwX3 hown hK hP 0 rfl rfl 4 (by decide) (hts (.fieldLink RX3 16 "ObjectRowsModel" "kinds" "[I") (by decide +kernel)) (fun _ h9 => h9) rfl dX3_hasAccess_16 ?_
    refine lv_iload_n hx hb dX3_hasAccess_19 rfl (lv_at hl 1 rfl) ?_
    refine va_iald hx hb hK hP 1 0 rfl rfl ho dX3_hasAccess_20 ?_
    refine lv_topi (fun y5 ey5 => ?_)
    obtain rfl : y5 = mK t o := ey5
    refine lv_bipush (v := 9) hx hb dX3_hasAccess_21 (by decide) ?_
    refine lv_icmp_ne (tgt := 30) hx hb dX3_hasAccess_23 (by decide) (fun c6 => ?_) (fun c6 => ?_)
    · skip
      refine lv_iconst (v := 0) hx hb dX3_hasAccess_30 (by decide) ?_
      exact reZ hx hb hr hlocks dX3_hasAccess_31 (by first | exact Or.inl rfl | exact Or.inr rfl | exact bI_01 _ | (rename_i h9; rw [h9]; exact bI_01 _) | (subst_vars; exact bI_01 _)) (by first | (simp only [qHasAcc, bI, b3, c6, decide_true, decide_false, Bool.not_true, Bool.not_false, Bool.and_true, Bool.true_and, Bool.and_false, Bool.false_and, Bool.or_true, Bool.true_or, Bool.or_false, Bool.false_or, Bool.and_self, Bool.or_self, if_true, if_false, ite_true, ite_false, Bool.false_eq_true, reduceIte, not_true_eq_false, not_false_eq_true, and_true, true_and, and_false, false_and, or_true, true_or, or_false, false_or, and_self, or_self, eq_self, decide_eq_true_eq, Bool.true_eq_false, reduceCtorEq, ne_eq]; done) | (simp [qHasAcc, bI, b3, c6]; done))
    · skip
      refine lv_iconst (v := 1) hx hb dX3_hasAccess_26 (by decide) ?_
      refine lv_goto (tgt := 31) hx hb dX3_hasAccess_27 (by decide) ?_
      exact reZ hx hb hr hlocks dX3_hasAccess_31 (by first | exact Or.inl rfl | exact Or.inr rfl | exact bI_01 _ | (rename_i h9; rw [h9]; exact bI_01 _) | (subst_vars; exact bI_01 _)) (by first | (simp only [qHasAcc, bI, b3, c6, decide_true, decide_false, Bool.not_true, Bool.not_false, Bool.and_true, Bool.true_and, Bool.and_false, Bool.false_and, Bool.or_true, Bool.true_or, Bool.or_false, Bool.false_or, Bool.and_self, Bool.or_self, if_true, if_false, ite_true, ite_false, Bool.false_eq_true, reduceIte, not_true_eq_false, not_false_eq_true, and_true, true_and, and_false, false_and, or_true, true_or, or_false, false_or, and_self, or_self, eq_self, decide_eq_true_eq, Bool.true_eq_false, reduceCtorEq, ne_eq]; done) | (simp [qHasAcc, bI, b3, c6]; done) | (simp only [qHasAcc, bI, b3, eq_true c6, decide_true, decide_false, Bool.not_true, Bool.not_false, Bool.and_true, Bool.true_and, Bool.and_false, Bool.false_and, Bool.or_true, Bool.true_or, Bool.or_false, Bool.false_or, Bool.and_self, Bool.or_self, if_true, if_false, ite_true, ite_false, Bool.false_eq_true, reduceIte, not_true_eq_false, not_false_eq_true, and_true, true_and, and_false, false_and, or_true, true_or, or_false, false_or, and_self, or_self, eq_self, decide_eq_true_eq, Bool.true_eq_false, reduceCtorEq, ne_eq]; done) | (simp [qHasAcc, bI, b3, eq_true c6]; done))
  · replace hr2 : r2 = 1 := by rw [hr2, b3]; rfl
    subst hr2
    refine lv_if_ne (tgt := 26) hx hb dX3_hasAccess_12 (by decide) (fun _ => ?_) (fun c7 => absurd c7 (by decide))
    refine lv_iconst (v := 1) hx hb dX3_hasAccess_26 (by decide) ?_
    refine lv_goto (tgt := 31) hx hb dX3_hasAccess_27 (by decide) ?_
    exact reZ hx hb hr hlocks dX3_hasAccess_31 (by first | exact Or.inl rfl | exact Or.inr rfl | exact bI_01 _ | (rename_i h9; rw [h9]; exact bI_01 _) | (subst_vars; exact bI_01 _)) (by first | (simp only [qHasAcc, bI, b3, decide_true, decide_false, Bool.not_true, Bool.not_false, Bool.and_true, Bool.true_and, Bool.and_false, Bool.false_and, Bool.or_true, Bool.true_or, Bool.or_false, Bool.false_or, Bool.and_self, Bool.or_self, if_true, if_false, ite_true, ite_false, Bool.false_eq_true, reduceIte, not_true_eq_false, not_false_eq_true, and_true, true_and, and_false, false_and, or_true, true_or, or_false, false_or, and_self, or_self, eq_self, decide_eq_true_eq, Bool.true_eq_false, reduceCtorEq, ne_eq]; done) | (simp [qHasAcc, bI, b3]; done))
theorem hdX3_hasAccess : yX3_hasAccess.cls = RX3 ∧ yX3_hasAccess.cls ≠ "java/lang/invoke/MethodHandle" ∧ yX3_hasAccess.cls ≠ "java/lang/invoke/VarHandle" ∧ (parseMethodDescriptor yX3_hasAccess.desc).map (fun d => d.parameters.length) = some 1 := by decide +kernel
set_option maxHeartbeats 4000000 in
set_option maxRecDepth 100000 in
theorem c_X3_accessOf (l : Launch) (D : va_G) (Y : Nat → ClassId) (ad : MA) (t : MS) (o : Int32) (ho : vp_in o 100) (hh : vp_in (qHolder t o) 400) : Met l yX3_accessOf wsX3_accessOf ({ frames := 1, cells := 0, slots := 0, locals := 21 }) (rdPc D Y [.ref (mO ad), .int o] (mW Y ad t)) (vp_Si (fun ans => ans = qAcc t o)) 0 0 (fun _ => False) := by
  refine rdOf (cc := cX3_accessOf) (maxL := 2) (ret := (some .int)) (own := RX3) (by decide) rfl rfl (Nat.le_of_ble_eq_true rfl) ?_
  intro p e s m below meth c ls hx hb hr hts hown hml hlocks hP hK hl
  have iwX3 : ∀ w ∈ u_ws RX3 TX3 19, w ∈ wsX3_accessOf := fun _ h => List.mem_cons_of_mem _ (List.mem_append_right _ h)
  have hl : lv_has ls 2 [(0, .ref (mO ad)), (1, .int o)] := hl
  refine lv_aload_n hx hb dX3_accessOf_0 rfl (lv_at hl 0 rfl) ?_
  refine va_get (D := D) (ci := 4) (v := .ref (mH ad 6)) (C := RX3) (T := TX3) (N := 19) hx hb hts iwX3 hown hK hP 0 rfl rfl 10 (by decide) (hts (.fieldLink RX3 37 "ObjectRowsModel" "access" "[I") (by decide +kernel)) (fun _ h9 => h9) rfl dX3_accessOf_1 ?_
  refine lv_aload_n hx hb dX3_accessOf_4 rfl (lv_at hl 0 rfl) ?_
  refine lv_iload_n hx hb dX3_accessOf_5 rfl (lv_at hl 1 rfl) ?_
  refine rcI (As := [.int o]) (rest := [.ref (mH ad 6)]) ⟨hx, hb, hml, hown, hts⟩ (c_X3_holder l D Y ad t o ho) (cwV 1 hts gX3_accessOf_X3_holder rfl rfl rfl hdX3_holder ⟨Nat.le_of_ble_eq_true rfl, Nat.le_of_ble_eq_true rfl⟩) hP hK 0 4 rfl rfl rfl hl.1 rfl (Nat.le_of_ble_eq_true rfl) dX3_accessOf_6 ⟨(Nat.zero_le _), (Nat.zero_le _)⟩ (fun r1 hr1 => ?_)
  obtain rfl : r1 = qHolder t o := hr1
  refine va_iald hx hb hK hP 7 0 rfl rfl hh dX3_accessOf_9 ?_
  refine lv_topi (fun y2 ey2 => ?_)
  obtain rfl : y2 = mAc t (qHolder t o) := ey2
  exact reI hx hb hr hlocks dX3_accessOf_10 (by first | (simp only [qAcc, decide_true, decide_false, Bool.not_true, Bool.not_false, Bool.and_true, Bool.true_and, Bool.and_false, Bool.false_and, Bool.or_true, Bool.true_or, Bool.or_false, Bool.false_or, Bool.and_self, Bool.or_self, if_true, if_false, ite_true, ite_false, Bool.false_eq_true, reduceIte, not_true_eq_false, not_false_eq_true, and_true, true_and, and_false, false_and, or_true, true_or, or_false, false_or, and_self, or_self, eq_self, decide_eq_true_eq, Bool.true_eq_false, reduceCtorEq, ne_eq]; done) | (simp [qAcc]; done))
theorem hdX3_accessOf : yX3_accessOf.cls = RX3 ∧ yX3_accessOf.cls ≠ "java/lang/invoke/MethodHandle" ∧ yX3_accessOf.cls ≠ "java/lang/invoke/VarHandle" ∧ (parseMethodDescriptor yX3_accessOf.desc).map (fun d => d.parameters.length) = some 1 := by decide +kernel
set_option maxHeartbeats 4000000 in
set_option maxRecDepth 100000 in
theorem c_X3_isSize (l : Launch) (D : va_G) (Y : Nat → ClassId) (ad : MA) (t : MS) (k : Int32) (z : Int32)  : Met l yX3_isSize wsX3_isSize ({ frames := 1, cells := 0, slots := 0, locals := 22 }) (rdPc D Y [.ref (mO ad), .int k, .int z] (mW Y ad t)) (vp_Si (fun ans => ans = bI (qSize t k z))) 0 0 (fun _ => False) := by
  refine rdOf (cc := cX3_isSize) (maxL := 3) (ret := (some .boolean)) (own := RX3) (by decide) rfl rfl (Nat.le_of_ble_eq_true rfl) ?_
  intro p e s m below meth c ls hx hb hr hts hown hml hlocks hP hK hl
  have iwX3 : ∀ w ∈ u_ws RX3 TX3 19, w ∈ wsX3_isSize := fun _ h => List.mem_cons_of_mem _ (List.mem_append_right _ h)
  have hl : lv_has ls 3 [(0, .ref (mO ad)), (1, .int k), (2, .int z)] := hl
  refine lv_iload_n hx hb dX3_isSize_0 rfl (lv_at hl 1 rfl) ?_
  by_cases c1 : k = 2
  · refine lv_tableIn (off := 39) (tgt := 40) hx hb dX3_isSize_1 (by rw [c1]; decide) (by rw [c1]; decide) (by rw [c1]; decide) (by decide) ?_
    refine lv_iload_n hx hb dX3_isSize_40 rfl (lv_at hl 2 rfl) ?_
    refine lv_iconst (v := 0) hx hb dX3_isSize_41 (by decide) ?_
    refine lv_iconst (v := 1) hx hb dX3_isSize_42 (by decide) ?_
    refine scI (As := [.int z, .int 0, .int 1]) (rest := []) ⟨hx, hb, hml, hown, hts⟩ (c_X3_within l z 0 1) (va_cwS 3 hts gX3_isSize_X3_within rfl rfl rfl hdX3_within ⟨Nat.le_of_ble_eq_true rfl, Nat.le_of_ble_eq_true rfl⟩) rfl hl.1 rfl (Nat.le_of_ble_eq_true rfl) dX3_isSize_43 ⟨(Nat.zero_le _), (Nat.zero_le _)⟩ (fun r2 hr2 => ?_)
    replace hr2 : r2 = bI (qWithin z 0 1) := hr2
    cases b3 : qWithin z 0 1
    · replace hr2 : r2 = 0 := by rw [hr2, b3]; rfl
      subst hr2
      exact reZ hx hb hr hlocks dX3_isSize_46 (by first | exact Or.inl rfl | exact Or.inr rfl | exact bI_01 _ | (rename_i h9; rw [h9]; exact bI_01 _) | (subst_vars; exact bI_01 _)) (by first | (simp only [qSize, bI, c1, b3, decide_true, decide_false, Bool.not_true, Bool.not_false, Bool.and_true, Bool.true_and, Bool.and_false, Bool.false_and, Bool.or_true, Bool.true_or, Bool.or_false, Bool.false_or, Bool.and_self, Bool.or_self, if_true, if_false, ite_true, ite_false, Bool.false_eq_true, reduceIte, not_true_eq_false, not_false_eq_true, and_true, true_and, and_false, false_and, or_true, true_or, or_false, false_or, and_self, or_self, eq_self, decide_eq_true_eq, Bool.true_eq_false, reduceCtorEq, ne_eq]; done) | (simp [qSize, bI, c1, b3]; done))
    · replace hr2 : r2 = 1 := by rw [hr2, b3]; rfl
      subst hr2
      exact reZ hx hb hr hlocks dX3_isSize_46 (by first | exact Or.inl rfl | exact Or.inr rfl | exact bI_01 _ | (rename_i h9; rw [h9]; exact bI_01 _) | (subst_vars; exact bI_01 _)) (by first | (simp only [qSize, bI, c1, b3, decide_true, decide_false, Bool.not_true, Bool.not_false, Bool.and_true, Bool.true_and, Bool.and_false, Bool.false_and, Bool.or_true, Bool.true_or, Bool.or_false, Bool.false_or, Bool.and_self, Bool.or_self, if_true, if_false, ite_true, ite_false, Bool.false_eq_true, reduceIte, not_true_eq_false, not_false_eq_true, and_true, true_and, and_false, false_and, or_true, true_or, or_false, false_or, and_self, or_self, eq_self, decide_eq_true_eq, Bool.true_eq_false, reduceCtorEq, ne_eq]; done) | (simp [qSize, bI, c1, b3]; done))
  by_cases c4 : k = 3
  · refine lv_tableIn (off := 46) (tgt := 47) hx hb dX3_isSize_1 (by rw [c4]; decide) (by rw [c4]; decide) (by rw [c4]; decide) (by decide) ?_
    refine lv_iload_n hx hb dX3_isSize_47 rfl (lv_at hl 2 rfl) ?_
    refine lv_iconst (v := 0) hx hb dX3_isSize_48 (by decide) ?_
    refine lv_sipush (v := 999) hx hb dX3_isSize_49 (by decide) ?_
    refine scI (As := [.int z, .int 0, .int 999]) (rest := []) ⟨hx, hb, hml, hown, hts⟩ (c_X3_within l z 0 999) (va_cwS 3 hts gX3_isSize_X3_within rfl rfl rfl hdX3_within ⟨Nat.le_of_ble_eq_true rfl, Nat.le_of_ble_eq_true rfl⟩) rfl hl.1 rfl (Nat.le_of_ble_eq_true rfl) dX3_isSize_52 ⟨(Nat.zero_le _), (Nat.zero_le _)⟩ (fun r5 hr5 => ?_)
    replace hr5 : r5 = bI (qWithin z 0 999) := hr5
    cases b6 : qWithin z 0 999
    · replace hr5 : r5 = 0 := by rw [hr5, b6]; rfl
      subst hr5
      exact reZ hx hb hr hlocks dX3_isSize_55 (by first | exact Or.inl rfl | exact Or.inr rfl | exact bI_01 _ | (rename_i h9; rw [h9]; exact bI_01 _) | (subst_vars; exact bI_01 _)) (by first | (simp only [qSize, bI, c1, c4, b6, decide_true, decide_false, Bool.not_true, Bool.not_false, Bool.and_true, Bool.true_and, Bool.and_false, Bool.false_and, Bool.or_true, Bool.true_or, Bool.or_false, Bool.false_or, Bool.and_self, Bool.or_self, if_true, if_false, ite_true, ite_false, Bool.false_eq_true, reduceIte, not_true_eq_false, not_false_eq_true, and_true, true_and, and_false, false_and, or_true, true_or, or_false, false_or, and_self, or_self, eq_self, decide_eq_true_eq, Bool.true_eq_false, reduceCtorEq, ne_eq]; done) | (simp [qSize, bI, c1, c4, b6]; done))
    · replace hr5 : r5 = 1 := by rw [hr5, b6]; rfl
      subst hr5
      exact reZ hx hb hr hlocks dX3_isSize_55 (by first | exact Or.inl rfl | exact Or.inr rfl | exact bI_01 _ | (rename_i h9; rw [h9]; exact bI_01 _) | (subst_vars; exact bI_01 _)) (by first | (simp only [qSize, bI, c1, c4, b6, decide_true, decide_false, Bool.not_true, Bool.not_false, Bool.and_true, Bool.true_and, Bool.and_false, Bool.false_and, Bool.or_true, Bool.true_or, Bool.or_false, Bool.false_or, Bool.and_self, Bool.or_self, if_true, if_false, ite_true, ite_false, Bool.false_eq_true, reduceIte, not_true_eq_false, not_false_eq_true, and_true, true_and, and_false, false_and, or_true, true_or, or_false, false_or, and_self, or_self, eq_self, decide_eq_true_eq, Bool.true_eq_false, reduceCtorEq, ne_eq]; done) | (simp [qSize, bI, c1, c4, b6]; done))
  by_cases c7 : k = 4
  · refine lv_tableIn (off := 55) (tgt := 56) hx hb dX3_isSize_1 (by rw [c7]; decide) (by rw [c7]; decide) (by rw [c7]; decide) (by decide) ?_
    refine lv_iload_n hx hb dX3_isSize_56 rfl (lv_at hl 2 rfl) ?_
    refine lv_iconst (v := 0) hx hb dX3_isSize_57 (by decide) ?_
    refine lv_bipush (v := 64) hx hb dX3_isSize_58 (by decide) ?_
    refine scI (As := [.int z, .int 0, .int 64]) (rest := []) ⟨hx, hb, hml, hown, hts⟩ (c_X3_within l z 0 64) (va_cwS 3 hts gX3_isSize_X3_within rfl rfl rfl hdX3_within ⟨Nat.le_of_ble_eq_true rfl, Nat.le_of_ble_eq_true rfl⟩) rfl hl.1 rfl (Nat.le_of_ble_eq_true rfl) dX3_isSize_60 ⟨(Nat.zero_le _), (Nat.zero_le _)⟩ (fun r8 hr8 => ?_)
    replace hr8 : r8 = bI (qWithin z 0 64) := hr8
    cases b9 : qWithin z 0 64
    · replace hr8 : r8 = 0 := by rw [hr8, b9]; rfl
      subst hr8
      exact reZ hx hb hr hlocks dX3_isSize_63 (by first | exact Or.inl rfl | exact Or.inr rfl | exact bI_01 _ | (rename_i h9; rw [h9]; exact bI_01 _) | (subst_vars; exact bI_01 _)) (by first | (simp only [qSize, bI, c1, c4, c7, b9, decide_true, decide_false, Bool.not_true, Bool.not_false, Bool.and_true, Bool.true_and, Bool.and_false, Bool.false_and, Bool.or_true, Bool.true_or, Bool.or_false, Bool.false_or, Bool.and_self, Bool.or_self, if_true, if_false, ite_true, ite_false, Bool.false_eq_true, reduceIte, not_true_eq_false, not_false_eq_true, and_true, true_and, and_false, false_and, or_true, true_or, or_false, false_or, and_self, or_self, eq_self, decide_eq_true_eq, Bool.true_eq_false, reduceCtorEq, ne_eq]; done) | (simp [qSize, bI, c1, c4, c7, b9]; done))
    · replace hr8 : r8 = 1 := by rw [hr8, b9]; rfl
      subst hr8
      exact reZ hx hb hr hlocks dX3_isSize_63 (by first | exact Or.inl rfl | exact Or.inr rfl | exact bI_01 _ | (rename_i h9; rw [h9]; exact bI_01 _) | (subst_vars; exact bI_01 _)) (by first | (simp only [qSize, bI, c1, c4, c7, b9, decide_true, decide_false, Bool.not_true, Bool.not_false, Bool.and_true, Bool.true_and, Bool.and_false, Bool.false_and, Bool.or_true, Bool.true_or, Bool.or_false, Bool.false_or, Bool.and_self, Bool.or_self, if_true, if_false, ite_true, ite_false, Bool.false_eq_true, reduceIte, not_true_eq_false, not_false_eq_true, and_true, true_and, and_false, false_and, or_true, true_or, or_false, false_or, and_self, or_self, eq_self, decide_eq_true_eq, Bool.true_eq_false, reduceCtorEq, ne_eq]; done) | (simp [qSize, bI, c1, c4, c7, b9]; done))
  by_cases c10 : k = 5 ∨ k = 7
  · refine lv_tableIn (off := 63) (tgt := 64) hx hb dX3_isSize_1 (by rcases c10 with c10 | c10 <;> rw [c10] <;> decide) (by rcases c10 with c10 | c10 <;> rw [c10] <;> decide) (by rcases c10 with c10 | c10 <;> rw [c10] <;> decide) (by decide) ?_
    refine lv_iload_n hx hb dX3_isSize_64 rfl (lv_at hl 2 rfl) ?_
    refine lv_iconst (v := 0) hx hb dX3_isSize_65 (by decide) ?_
    refine lv_bipush (v := 32) hx hb dX3_isSize_66 (by decide) ?_
    refine scI (As := [.int z, .int 0, .int 32]) (rest := []) ⟨hx, hb, hml, hown, hts⟩ (c_X3_within l z 0 32) (va_cwS 3 hts gX3_isSize_X3_within rfl rfl rfl hdX3_within ⟨Nat.le_of_ble_eq_true rfl, Nat.le_of_ble_eq_true rfl⟩) rfl hl.1 rfl (Nat.le_of_ble_eq_true rfl) dX3_isSize_68 ⟨(Nat.zero_le _), (Nat.zero_le _)⟩ (fun r11 hr11 => ?_)
    replace hr11 : r11 = bI (qWithin z 0 32) := hr11
    cases b12 : qWithin z 0 32
    · replace hr11 : r11 = 0 := by rw [hr11, b12]; rfl
      subst hr11
      exact reZ hx hb hr hlocks dX3_isSize_71 (by first | exact Or.inl rfl | exact Or.inr rfl | exact bI_01 _ | (rename_i h9; rw [h9]; exact bI_01 _) | (subst_vars; exact bI_01 _)) (by first | (simp only [qSize, bI, c1, c4, c7, c10, b12, decide_true, decide_false, Bool.not_true, Bool.not_false, Bool.and_true, Bool.true_and, Bool.and_false, Bool.false_and, Bool.or_true, Bool.true_or, Bool.or_false, Bool.false_or, Bool.and_self, Bool.or_self, if_true, if_false, ite_true, ite_false, Bool.false_eq_true, reduceIte, not_true_eq_false, not_false_eq_true, and_true, true_and, and_false, false_and, or_true, true_or, or_false, false_or, and_self, or_self, eq_self, decide_eq_true_eq, Bool.true_eq_false, reduceCtorEq, ne_eq]; done) | (simp [qSize, bI, c1, c4, c7, c10, b12]; done))
    · replace hr11 : r11 = 1 := by rw [hr11, b12]; rfl
      subst hr11
      exact reZ hx hb hr hlocks dX3_isSize_71 (by first | exact Or.inl rfl | exact Or.inr rfl | exact bI_01 _ | (rename_i h9; rw [h9]; exact bI_01 _) | (subst_vars; exact bI_01 _)) (by first | (simp only [qSize, bI, c1, c4, c7, c10, b12, decide_true, decide_false, Bool.not_true, Bool.not_false, Bool.and_true, Bool.true_and, Bool.and_false, Bool.false_and, Bool.or_true, Bool.true_or, Bool.or_false, Bool.false_or, Bool.and_self, Bool.or_self, if_true, if_false, ite_true, ite_false, Bool.false_eq_true, reduceIte, not_true_eq_false, not_false_eq_true, and_true, true_and, and_false, false_and, or_true, true_or, or_false, false_or, and_self, or_self, eq_self, decide_eq_true_eq, Bool.true_eq_false, reduceCtorEq, ne_eq]; done) | (simp [qSize, bI, c1, c4, c7, c10, b12]; done))
  by_cases c13 : k = 6
  · refine lv_tableIn (off := 71) (tgt := 72) hx hb dX3_isSize_1 (by rw [c13]; decide) (by rw [c13]; decide) (by rw [c13]; decide) (by decide) ?_
    refine lv_iload_n hx hb dX3_isSize_72 rfl (lv_at hl 2 rfl) ?_
    refine lv_iconst (v := 0) hx hb dX3_isSize_73 (by decide) ?_
    refine lv_bipush (v := 32) hx hb dX3_isSize_74 (by decide) ?_
    refine scI (As := [.int z, .int 0, .int 32]) (rest := []) ⟨hx, hb, hml, hown, hts⟩ (c_X3_within l z 0 32) (va_cwS 3 hts gX3_isSize_X3_within rfl rfl rfl hdX3_within ⟨Nat.le_of_ble_eq_true rfl, Nat.le_of_ble_eq_true rfl⟩) rfl hl.1 rfl (Nat.le_of_ble_eq_true rfl) dX3_isSize_76 ⟨(Nat.zero_le _), (Nat.zero_le _)⟩ (fun r14 hr14 => ?_)
    replace hr14 : r14 = bI (qWithin z 0 32) := hr14
    cases b15 : qWithin z 0 32
    · replace hr14 : r14 = 0 := by rw [hr14, b15]; rfl
      subst hr14
      refine lv_if_eq (tgt := 94) hx hb dX3_isSize_79 (by decide) (fun _ => ?_) (fun c16 => absurd (by decide) c16)
      refine lv_iconst (v := 0) hx hb dX3_isSize_94 (by decide) ?_
      exact reZ hx hb hr hlocks dX3_isSize_95 (by first | exact Or.inl rfl | exact Or.inr rfl | exact bI_01 _ | (rename_i h9; rw [h9]; exact bI_01 _) | (subst_vars; exact bI_01 _)) (by first | (simp only [qSize, bI, c1, c4, c7, c10, c13, b15, decide_true, decide_false, Bool.not_true, Bool.not_false, Bool.and_true, Bool.true_and, Bool.and_false, Bool.false_and, Bool.or_true, Bool.true_or, Bool.or_false, Bool.false_or, Bool.and_self, Bool.or_self, if_true, if_false, ite_true, ite_false, Bool.false_eq_true, reduceIte, not_true_eq_false, not_false_eq_true, and_true, true_and, and_false, false_and, or_true, true_or, or_false, false_or, and_self, or_self, eq_self, decide_eq_true_eq, Bool.true_eq_false, reduceCtorEq, ne_eq]; done) | (simp [qSize, bI, c1, c4, c7, c10, c13, b15]; done))
    · replace hr14 : r14 = 1 := by rw [hr14, b15]; rfl
      subst hr14
      refine lv_if_eq (tgt := 94) hx hb dX3_isSize_79 (by decide) (fun c17 => absurd c17 (by decide)) (fun _ => ?_)
      refine lv_iload_n hx hb dX3_isSize_82 rfl (lv_at hl 2 rfl) ?_
      refine lv_aload_n hx hb dX3_isSize_83 rfl (lv_at hl 0 rfl) ?_
      refine va_get (D := D) (ci := 4) (v := .int (mMany t)) (C := RX3) (T := TX3) (N := 19) hx hb hts iwX3 hown hK hP 0 rfl rfl 1 (by decide) (hts (.fieldLink RX3 7 "ObjectRowsModel" "many" "I") (by decide +kernel)) (fun _ h9 => h9) rfl dX3_isSize_84 ?_
      refine lv_icmp_gt (tgt := 94) hx hb dX3_isSize_87 (by decide) (fun c18 => ?_) (fun c18 => ?_)
      · skip
        refine lv_iconst (v := 0) hx hb dX3_isSize_94 (by decide) ?_
        exact reZ hx hb hr hlocks dX3_isSize_95 (by first | exact Or.inl rfl | exact Or.inr rfl | exact bI_01 _ | (rename_i h9; rw [h9]; exact bI_01 _) | (subst_vars; exact bI_01 _)) (by first | (simp only [qSize, bI, c1, c4, c7, c10, c13, b15, c18, decide_true, decide_false, Bool.not_true, Bool.not_false, Bool.and_true, Bool.true_and, Bool.and_false, Bool.false_and, Bool.or_true, Bool.true_or, Bool.or_false, Bool.false_or, Bool.and_self, Bool.or_self, if_true, if_false, ite_true, ite_false, Bool.false_eq_true, reduceIte, not_true_eq_false, not_false_eq_true, and_true, true_and, and_false, false_and, or_true, true_or, or_false, false_or, and_self, or_self, eq_self, decide_eq_true_eq, Bool.true_eq_false, reduceCtorEq, ne_eq]; done) | (simp [qSize, bI, c1, c4, c7, c10, c13, b15, c18, Int32.not_le.mpr c18]; done))
      · skip
        refine lv_iconst (v := 1) hx hb dX3_isSize_90 (by decide) ?_
        refine lv_goto (tgt := 95) hx hb dX3_isSize_91 (by decide) ?_
        exact reZ hx hb hr hlocks dX3_isSize_95 (by first | exact Or.inl rfl | exact Or.inr rfl | exact bI_01 _ | (rename_i h9; rw [h9]; exact bI_01 _) | (subst_vars; exact bI_01 _)) (by first | (simp only [qSize, bI, c1, c4, c7, c10, c13, b15, c18, decide_true, decide_false, Bool.not_true, Bool.not_false, Bool.and_true, Bool.true_and, Bool.and_false, Bool.false_and, Bool.or_true, Bool.true_or, Bool.or_false, Bool.false_or, Bool.and_self, Bool.or_self, if_true, if_false, ite_true, ite_false, Bool.false_eq_true, reduceIte, not_true_eq_false, not_false_eq_true, and_true, true_and, and_false, false_and, or_true, true_or, or_false, false_or, and_self, or_self, eq_self, decide_eq_true_eq, Bool.true_eq_false, reduceCtorEq, ne_eq]; done) | (simp [qSize, bI, c1, c4, c7, c10, c13, b15, c18, Int32.not_lt.mp c18]; done))
  refine lv_tableD (tgt := 96) hx hb dX3_isSize_1 (tblD (ks := [2, 3, 4, 5, 7, 6]) (by decide) (List.forall_mem_cons.mpr ⟨neI c1 (by decide), (List.forall_mem_cons.mpr ⟨neI c4 (by decide), (List.forall_mem_cons.mpr ⟨neI c7 (by decide), (List.forall_mem_cons.mpr ⟨neI (fun h9 => c10 (Or.inl h9)) (by decide), (List.forall_mem_cons.mpr ⟨neI (fun h9 => c10 (Or.inr (h9))) (by decide), (List.forall_mem_cons.mpr ⟨neI c13 (by decide), (fun _ h => absurd h List.not_mem_nil)⟩)⟩)⟩)⟩)⟩)⟩) (by decide)) (by decide) ?_
  refine lv_iconst (v := 1) hx hb dX3_isSize_96 (by decide) ?_
  exact reZ hx hb hr hlocks dX3_isSize_97 (by first | exact Or.inl rfl | exact Or.inr rfl | exact bI_01 _ | (rename_i h9; rw [h9]; exact bI_01 _) | (subst_vars; exact bI_01 _)) (by first | (simp only [qSize, bI, c1, c4, c7, c10, c13, decide_true, decide_false, Bool.not_true, Bool.not_false, Bool.and_true, Bool.true_and, Bool.and_false, Bool.false_and, Bool.or_true, Bool.true_or, Bool.or_false, Bool.false_or, Bool.and_self, Bool.or_self, if_true, if_false, ite_true, ite_false, Bool.false_eq_true, reduceIte, not_true_eq_false, not_false_eq_true, and_true, true_and, and_false, false_and, or_true, true_or, or_false, false_or, and_self, or_self, eq_self, decide_eq_true_eq, Bool.true_eq_false, reduceCtorEq, ne_eq]; done) | (simp [qSize, bI, c1, c4, c7, c10, c13]; done))
theorem hdX3_isSize : yX3_isSize.cls = RX3 ∧ yX3_isSize.cls ≠ "java/lang/invoke/MethodHandle" ∧ yX3_isSize.cls ≠ "java/lang/invoke/VarHandle" ∧ (parseMethodDescriptor yX3_isSize.desc).map (fun d => d.parameters.length) = some 2 := by decide +kernel
set_option maxHeartbeats 4000000 in
set_option maxRecDepth 100000 in
theorem c_X3_byteOf (l : Launch) (D : va_G) (Y : Nat → ClassId) (ad : MA) (t : MS) (o : Int32) (i : Int32) (ho : vp_in o 100) (hi : vp_in (64 * mNu t o + mFr t o + i) 6400) : Met l yX3_byteOf wsX3_byteOf ({ frames := 0, cells := 0, slots := 0, locals := 0 }) (rdPc D Y [.ref (mO ad), .int o, .int i] (mW Y ad t)) (vp_Si (fun ans => ans = qByte t o i)) 0 0 (fun _ => False) := by
  refine rdOf (cc := cX3_byteOf) (maxL := 3) (ret := (some .int)) (own := RX3) (by decide) rfl rfl (Nat.le_of_ble_eq_true rfl) ?_
  intro p e s m below meth c ls hx hb hr hts hown hml hlocks hP hK hl
  have iwX3 : ∀ w ∈ u_ws RX3 TX3 19, w ∈ wsX3_byteOf := fun _ h => List.mem_cons_of_mem _ (List.mem_append_right _ h)
  have hl : lv_has ls 3 [(0, .ref (mO ad)), (1, .int o), (2, .int i)] := hl
  refine lv_aload_n hx hb dX3_byteOf_0 rfl (lv_at hl 0 rfl) ?_
  refine va_get (D := D) (ci := 4) (v := .ref (mH ad 4)) (C := RX3) (T := TX3) (N := 19) hx hb hts iwX3 hown hK hP 0 rfl rfl 8 (by decide) (hts (.fieldLink RX3 29 "ObjectRowsModel" "bytes" "[B") (by decide +kernel)) (fun _ h9 => h9) rfl dX3_byteOf_1 ?_
  refine lv_bipush (v := 64) hx hb dX3_byteOf_4 (by decide) ?_
  refine lv_aload_n hx hb dX3_byteOf_6 rfl (lv_at hl 0 rfl) ?_
  refine va_get (D := D) (ci := 4) (v := .ref (mH ad 1)) (C := RX3) (T := TX3) (N := 19) hx hb hts iwX3 hown hK hP 0 rfl rfl 5 (by decide) (hts (.fieldLink RX3 20 "ObjectRowsModel" "numbers" "[I") (by decide +kernel)) (fun _ h9 => h9) rfl dX3_byteOf_7 ?_
  refine lv_iload_n hx hb dX3_byteOf_10 rfl (lv_at hl 1 rfl) ?_
  refine va_iald hx hb hK hP 2 0 rfl rfl ho dX3_byteOf_11 ?_
  refine lv_topi (fun y1 ey1 => ?_)
  obtain rfl : y1 = mNu t o := ey1
  refine lv_imul hx hb dX3_byteOf_12 ?_
  refine lv_aload_n hx hb dX3_byteOf_13 rfl (lv_at hl 0 rfl) ?_
  refine va_get (D := D) (ci := 4) (v := .ref (mH ad 2)) (C := RX3) (T := TX3) (N := 19) hx hb hts iwX3 hown hK hP 0 rfl rfl 6 (by decide) (hts (.fieldLink RX3 23 "ObjectRowsModel" "froms" "[I") (by decide +kernel)) (fun _ h9 => h9) rfl dX3_byteOf_14 ?_
  refine lv_iload_n hx hb dX3_byteOf_17 rfl (lv_at hl 1 rfl) ?_
  refine va_iald hx hb hK hP 3 0 rfl rfl ho dX3_byteOf_18 ?_
  refine lv_topi (fun y2 ey2 => ?_)
  obtain rfl : y2 = mFr t o := ey2
  refine lv_iadd hx hb dX3_byteOf_19 ?_
  refine lv_iload_n hx hb dX3_byteOf_20 rfl (lv_at hl 2 rfl) ?_
  refine lv_iadd hx hb dX3_byteOf_21 ?_
  refine va_bald hx hb hK hP 5 1 rfl rfl hi dX3_byteOf_22 ?_
  refine lv_topi (fun y3 ey3 => ?_)
  obtain rfl : y3 = mBy t (((64 * (mNu t o)) + (mFr t o)) + i) := ey3
  refine lv_sipush (v := 255) hx hb dX3_byteOf_23 (by decide) ?_
  refine lv_iand hx hb dX3_byteOf_26 ?_
  exact reI hx hb hr hlocks dX3_byteOf_27 (by first | (simp only [qByte, decide_true, decide_false, Bool.not_true, Bool.not_false, Bool.and_true, Bool.true_and, Bool.and_false, Bool.false_and, Bool.or_true, Bool.true_or, Bool.or_false, Bool.false_or, Bool.and_self, Bool.or_self, if_true, if_false, ite_true, ite_false, Bool.false_eq_true, reduceIte, not_true_eq_false, not_false_eq_true, and_true, true_and, and_false, false_and, or_true, true_or, or_false, false_or, and_self, or_self, eq_self, decide_eq_true_eq, Bool.true_eq_false, reduceCtorEq, ne_eq]; done) | (simp [qByte]; done))
theorem hdX3_byteOf : yX3_byteOf.cls = RX3 ∧ yX3_byteOf.cls ≠ "java/lang/invoke/MethodHandle" ∧ yX3_byteOf.cls ≠ "java/lang/invoke/VarHandle" ∧ (parseMethodDescriptor yX3_byteOf.desc).map (fun d => d.parameters.length) = some 2 := by decide +kernel
set_option maxHeartbeats 4000000 in
set_option maxRecDepth 100000 in
theorem c_X3_nameOf (l : Launch) (D : va_G) (Y : Nat → ClassId) (ad : MA) (t : MS) (o : Int32) (ho : vp_in o 100) (hh : vp_in (qHolder t o) 400) (hby : ∀ i : Int32, ¬ i < 0 → ¬ mL t o ≤ i → vp_in (64 * mNu t o + mFr t o + i) 6400) : Met l yX3_nameOf wsX3_nameOf ({ frames := 2, cells := 0, slots := 0, locals := 42 }) (rdPc D Y [.ref (mO ad), .int o] (mW Y ad t)) (vp_Si (fun ans => ans = qName t o)) 0 0 (fun _ => False) := by
  refine rdOf (cc := cX3_nameOf) (maxL := 6) (ret := (some .int)) (own := RX3) (by decide) rfl rfl (Nat.le_of_ble_eq_true rfl) ?_
  intro p e s m below meth c ls hx hb hr hts hown hml hlocks hP hK hl
  have iwX3 : ∀ w ∈ u_ws RX3 TX3 19, w ∈ wsX3_nameOf := fun _ h => List.mem_cons_of_mem _ (List.mem_append_right _ h)
  have hl : lv_has ls 6 [(0, .ref (mO ad)), (1, .int o)] := hl
  refine lv_aload_n hx hb dX3_nameOf_0 rfl (lv_at hl 0 rfl) ?_
  refine va_get (D := D) (ci := 4) (v := .ref (mH ad 3)) (C := RX3) (T := TX3) (N := 19) hx hb hts iwX3 hown hK hP 0 rfl rfl 7 (by decide) (hts (.fieldLink RX3 26 "ObjectRowsModel" "lengths" "[I") (by decide +kernel)) (fun _ h9 => h9) rfl dX3_nameOf_1 ?_
  refine lv_iload_n hx hb dX3_nameOf_4 rfl (lv_at hl 1 rfl) ?_
  refine va_iald hx hb hK hP 4 0 rfl rfl ho dX3_nameOf_5 ?_
  refine lv_topi (fun y1 ey1 => ?_)
  obtain rfl : y1 = mL t o := ey1
  refine lv_istore_n (lv' := [(2, .int (mL t o)), (0, .ref (mO ad)), (1, .int o)]) hx hb dX3_nameOf_6 rfl hl (by decide) rfl (fun ls hl => ?_)
  refine lv_iload_n hx hb dX3_nameOf_7 rfl (lv_at hl 0 rfl) ?_
  refine lv_iconst (v := 1) hx hb dX3_nameOf_8 (by decide) ?_
  refine lv_icmp_lt (tgt := 42) hx hb dX3_nameOf_9 (by decide) (fun c2 => ?_) (fun c2 => ?_)
  · skip
    refine lv_iconst (v := (-1)) hx hb dX3_nameOf_42 (by decide) ?_
    exact reI hx hb hr hlocks dX3_nameOf_43 (by first | (simp only [qName, c2, decide_true, decide_false, Bool.not_true, Bool.not_false, Bool.and_true, Bool.true_and, Bool.and_false, Bool.false_and, Bool.or_true, Bool.true_or, Bool.or_false, Bool.false_or, Bool.and_self, Bool.or_self, if_true, if_false, ite_true, ite_false, Bool.false_eq_true, reduceIte, not_true_eq_false, not_false_eq_true, and_true, true_and, and_false, false_and, or_true, true_or, or_false, false_or, and_self, or_self, eq_self, decide_eq_true_eq, Bool.true_eq_false, reduceCtorEq, ne_eq]; done) | (simp [qName, c2, Int32.not_le.mpr c2]; done))
  · skip
    refine lv_iload_n hx hb dX3_nameOf_12 rfl (lv_at hl 0 rfl) ?_
    refine lv_iconst (v := 3) hx hb dX3_nameOf_13 (by decide) ?_
    refine lv_icmp_gt (tgt := 42) hx hb dX3_nameOf_14 (by decide) (fun c3 => ?_) (fun c3 => ?_)
    · skip
      refine lv_iconst (v := (-1)) hx hb dX3_nameOf_42 (by decide) ?_
      exact reI hx hb hr hlocks dX3_nameOf_43 (by first | (simp only [qName, c2, c3, decide_true, decide_false, Bool.not_true, Bool.not_false, Bool.and_true, Bool.true_and, Bool.and_false, Bool.false_and, Bool.or_true, Bool.true_or, Bool.or_false, Bool.false_or, Bool.and_self, Bool.or_self, if_true, if_false, ite_true, ite_false, Bool.false_eq_true, reduceIte, not_true_eq_false, not_false_eq_true, and_true, true_and, and_false, false_and, or_true, true_or, or_false, false_or, and_self, or_self, eq_self, decide_eq_true_eq, Bool.true_eq_false, reduceCtorEq, ne_eq]; done) | (simp [qName, c2, c3, Int32.not_lt.mp c2, Int32.not_le.mpr c3]; done))
    · skip
      refine lv_iload_n hx hb dX3_nameOf_17 rfl (lv_at hl 0 rfl) ?_
      refine lv_iconst (v := 1) hx hb dX3_nameOf_18 (by decide) ?_
      refine lv_icmp_le (tgt := 33) hx hb dX3_nameOf_19 (by decide) (fun c4 => ?_) (fun c4 => ?_)
      · skip
        refine lv_aload_n hx hb dX3_nameOf_33 rfl (lv_at hl 1 rfl) ?_
        refine lv_iload_n hx hb dX3_nameOf_34 rfl (lv_at hl 2 rfl) ?_
        refine rcI (As := [.int o]) (rest := []) ⟨hx, hb, hml, hown, hts⟩ (c_X3_accessOf l D Y ad t o ho hh) (cwV 1 hts gX3_nameOf_X3_accessOf rfl rfl rfl hdX3_accessOf ⟨Nat.le_of_ble_eq_true rfl, Nat.le_of_ble_eq_true rfl⟩) hP hK 0 4 rfl rfl rfl hl.1 rfl (Nat.le_of_ble_eq_true rfl) dX3_nameOf_35 ⟨(Nat.zero_le _), (Nat.zero_le _)⟩ (fun r5 hr5 => ?_)
        obtain rfl : r5 = qAcc t o := hr5
        refine lv_iconst (v := 2) hx hb dX3_nameOf_38 (by decide) ?_
        refine lv_icmp_ge (tgt := 44) hx hb dX3_nameOf_39 (by decide) (fun c6 => ?_) (fun c6 => ?_)
        · skip
          refine lv_iconst (v := 0) hx hb dX3_nameOf_44 (by decide) ?_
          refine lv_istore_n (lv' := [(3, .int 0), (2, .int (mL t o)), (0, .ref (mO ad)), (1, .int o)]) hx hb dX3_nameOf_45 rfl hl (by decide) rfl (fun ls hl => ?_)
          refine lv_iconst (v := 0) hx hb dX3_nameOf_46 (by decide) ?_
          refine lv_istore (lv' := [(4, .int 0), (3, .int 0), (2, .int (mL t o)), (0, .ref (mO ad)), (1, .int o)]) hx hb dX3_nameOf_47 hl (by decide) rfl (fun ls hl => ?_)
          have LP : ∀ (n : Nat) (v z : Int32), ((mL t o).toInt - z.toInt).toNat < n → ¬ z < 0 → qNameL t o n z v = qName t o → ∀ ls : Array Slot, lv_has ls 6 [(4, .int z), (3, .int v), (2, .int (mL t o)), (0, .ref (mO ad)), (1, .int o)] → W p l e ({ frames := 2, cells := 0, slots := 0, locals := 42 }) s m ([.ref (mO ad), .int o] : List Value).toArray below meth c s.heap [] 0 0 (MQ below (vp_Si (fun ans => ans = qName t o)) ([.ref (mO ad), .int o] : List Value).toArray s 0 0 (fun _ => False)) (F0 m 49 ls []) := by
            intro n
            induction n with
            | zero => intro v z h9; exact absurd h9 (Nat.not_lt_zero _)
            | succ n ih =>
              intro v z hz hz0 hv ls hl
              refine lv_iload hx hb dX3_nameOf_49 (lv_at hl 0 rfl) ?_
              refine lv_iload_n hx hb dX3_nameOf_51 rfl (lv_at hl 2 rfl) ?_
              refine lv_icmp_ge (tgt := 97) hx hb dX3_nameOf_52 (by decide) (fun c7 => ?_) (fun c7 => ?_)
              · skip
                refine lv_iload_n hx hb dX3_nameOf_97 rfl (lv_at hl 1 rfl) ?_
                exact reI hx hb hr hlocks dX3_nameOf_98 (by first | (rw [← hv]; simp only [qNameL, c7, decide_true, decide_false, Bool.not_true, Bool.not_false, Bool.and_true, Bool.true_and, Bool.and_false, Bool.false_and, Bool.or_true, Bool.true_or, Bool.or_false, Bool.false_or, Bool.and_self, Bool.or_self, if_true, if_false, ite_true, ite_false, Bool.false_eq_true, reduceIte, not_true_eq_false, not_false_eq_true, and_true, true_and, and_false, false_and, or_true, true_or, or_false, false_or, and_self, or_self, eq_self, decide_eq_true_eq, Bool.true_eq_false, reduceCtorEq, ne_eq]; done) | (rw [← hv]; simp [qNameL, c7, Int32.not_lt.mp c2, Int32.not_lt.mp c3, Int32.not_lt.mpr c4, Int32.not_lt.mpr c6, Int32.not_lt.mpr c7]; done))
              · skip
                refine lv_aload_n hx hb dX3_nameOf_55 rfl (lv_at hl 3 rfl) ?_
                refine lv_iload_n hx hb dX3_nameOf_56 rfl (lv_at hl 4 rfl) ?_
                refine lv_iload hx hb dX3_nameOf_57 (lv_at hl 0 rfl) ?_
                refine rcI (As := [.int o, .int z]) (rest := []) ⟨hx, hb, hml, hown, hts⟩ (c_X3_byteOf l D Y ad t o z ho (hby z hz0 c7)) (cwV 2 hts gX3_nameOf_X3_byteOf rfl rfl rfl hdX3_byteOf ⟨Nat.le_of_ble_eq_true rfl, Nat.le_of_ble_eq_true rfl⟩) hP hK 0 4 rfl rfl rfl hl.1 rfl (Nat.le_of_ble_eq_true rfl) dX3_nameOf_59 ⟨(Nat.zero_le _), (Nat.zero_le _)⟩ (fun r8 hr8 => ?_)
                obtain rfl : r8 = qByte t o z := hr8
                refine lv_istore (lv' := [(5, .int (qByte t o z)), (4, .int z), (3, .int v), (2, .int (mL t o)), (0, .ref (mO ad)), (1, .int o)]) hx hb dX3_nameOf_62 hl (by decide) rfl (fun ls hl => ?_)
                refine lv_iload hx hb dX3_nameOf_64 (lv_at hl 0 rfl) ?_
                refine lv_bipush (v := 48) hx hb dX3_nameOf_66 (by decide) ?_
                refine lv_icmp_lt (tgt := 78) hx hb dX3_nameOf_68 (by decide) (fun c9 => ?_) (fun c9 => ?_)
                · skip
                  refine lv_iconst (v := (-1)) hx hb dX3_nameOf_78 (by decide) ?_
                  exact reI hx hb hr hlocks dX3_nameOf_79 (by first | (rw [← hv]; simp only [qNameL, c7, c9, decide_true, decide_false, Bool.not_true, Bool.not_false, Bool.and_true, Bool.true_and, Bool.and_false, Bool.false_and, Bool.or_true, Bool.true_or, Bool.or_false, Bool.false_or, Bool.and_self, Bool.or_self, if_true, if_false, ite_true, ite_false, Bool.false_eq_true, reduceIte, not_true_eq_false, not_false_eq_true, and_true, true_and, and_false, false_and, or_true, true_or, or_false, false_or, and_self, or_self, eq_self, decide_eq_true_eq, Bool.true_eq_false, reduceCtorEq, ne_eq]; done) | (rw [← hv]; simp [qNameL, c7, c9, Int32.not_lt.mp c2, Int32.not_lt.mp c3, Int32.not_lt.mpr c4, Int32.not_lt.mpr c6, Int32.not_le.mp c7, Int32.not_le.mpr c9]; done))
                · skip
                  refine lv_iload hx hb dX3_nameOf_71 (lv_at hl 0 rfl) ?_
                  refine lv_bipush (v := 57) hx hb dX3_nameOf_73 (by decide) ?_
                  refine lv_icmp_le (tgt := 80) hx hb dX3_nameOf_75 (by decide) (fun c10 => ?_) (fun c10 => ?_)
                  · skip
                    refine lv_bipush (v := 10) hx hb dX3_nameOf_80 (by decide) ?_
                    refine lv_iload_n hx hb dX3_nameOf_82 rfl (lv_at hl 2 rfl) ?_
                    refine lv_imul hx hb dX3_nameOf_83 ?_
                    refine lv_iload hx hb dX3_nameOf_84 (lv_at hl 0 rfl) ?_
                    refine lv_iadd hx hb dX3_nameOf_86 ?_
                    refine lv_bipush (v := 48) hx hb dX3_nameOf_87 (by decide) ?_
                    refine lv_isub hx hb dX3_nameOf_89 ?_
                    refine lv_istore_n (lv' := [(3, .int (((10 * v) + (qByte t o z)) - 48)), (5, .int (qByte t o z)), (4, .int z), (2, .int (mL t o)), (0, .ref (mO ad)), (1, .int o)]) hx hb dX3_nameOf_90 rfl hl (by decide) rfl (fun ls hl => ?_)
                    obtain ⟨z11, ez11⟩ : ∃ y : Int32, y = z + 1 := ⟨_, rfl⟩
                    refine lv_iinc (v := z11) (lv' := [(4, .int z11), (3, .int (((10 * v) + (qByte t o z)) - 48)), (5, .int (qByte t o z)), (2, .int (mL t o)), (0, .ref (mO ad)), (1, .int o)]) hx hb dX3_nameOf_91 hl (k := 2) rfl (by rw [ez11]; rfl) (by decide) rfl (fun ls hl => ?_)
                    refine lv_goto (tgt := 49) hx hb dX3_nameOf_94 (by decide) ?_
                    exact ih (((10 * v) + (qByte t o z)) - 48) z11 (mstep c7 hz ez11) (nnstep c7 hz0 ez11) (by first | (rw [← hv]; simp only [qNameL, c7, c9, c10, ez11, decide_true, decide_false, Bool.not_true, Bool.not_false, Bool.and_true, Bool.true_and, Bool.and_false, Bool.false_and, Bool.or_true, Bool.true_or, Bool.or_false, Bool.false_or, Bool.and_self, Bool.or_self, if_true, if_false, ite_true, ite_false, Bool.false_eq_true, reduceIte, not_true_eq_false, not_false_eq_true, and_true, true_and, and_false, false_and, or_true, true_or, or_false, false_or, and_self, or_self, eq_self, decide_eq_true_eq, Bool.true_eq_false, reduceCtorEq, ne_eq]; done) | (rw [← hv]; simp [qNameL, c7, c9, c10, ez11, Int32.not_lt.mp c2, Int32.not_lt.mp c3, Int32.not_lt.mpr c4, Int32.not_lt.mpr c6, Int32.not_le.mp c7, Int32.not_lt.mp c9, Int32.not_lt.mpr c10]; done)) ls (lv_sub hl [0, 1, 3, 4, 5] rfl)
                  · skip
                    refine lv_iconst (v := (-1)) hx hb dX3_nameOf_78 (by decide) ?_
                    exact reI hx hb hr hlocks dX3_nameOf_79 (by first | (rw [← hv]; simp only [qNameL, c7, c9, c10, decide_true, decide_false, Bool.not_true, Bool.not_false, Bool.and_true, Bool.true_and, Bool.and_false, Bool.false_and, Bool.or_true, Bool.true_or, Bool.or_false, Bool.false_or, Bool.and_self, Bool.or_self, if_true, if_false, ite_true, ite_false, Bool.false_eq_true, reduceIte, not_true_eq_false, not_false_eq_true, and_true, true_and, and_false, false_and, or_true, true_or, or_false, false_or, and_self, or_self, eq_self, decide_eq_true_eq, Bool.true_eq_false, reduceCtorEq, ne_eq]; done) | (rw [← hv]; simp [qNameL, c7, c9, c10, Int32.not_lt.mp c2, Int32.not_lt.mp c3, Int32.not_lt.mpr c4, Int32.not_lt.mpr c6, Int32.not_le.mp c7, Int32.not_lt.mp c9, Int32.not_le.mp c10]; done))
          exact LP ((mL t o).toInt.toNat + 1) 0 0 (by rw [show ((0 : Int32)).toInt = 0 from rfl]; omega) (by decide) (by first | (simp only [qName, c2, c3, c4, c6, decide_true, decide_false, Bool.not_true, Bool.not_false, Bool.and_true, Bool.true_and, Bool.and_false, Bool.false_and, Bool.or_true, Bool.true_or, Bool.or_false, Bool.false_or, Bool.and_self, Bool.or_self, if_true, if_false, ite_true, ite_false, Bool.false_eq_true, reduceIte, not_true_eq_false, not_false_eq_true, and_true, true_and, and_false, false_and, or_true, true_or, or_false, false_or, and_self, or_self, eq_self, decide_eq_true_eq, Bool.true_eq_false, reduceCtorEq, ne_eq]; done) | (simp [qName, c2, c3, c4, c6, Int32.not_lt.mp c2, Int32.not_lt.mp c3, Int32.not_lt.mpr c4, Int32.not_lt.mpr c6]; done)) ls (lv_sub hl [0, 1, 2, 3, 4] rfl)
        · skip
          refine lv_iconst (v := (-1)) hx hb dX3_nameOf_42 (by decide) ?_
          exact reI hx hb hr hlocks dX3_nameOf_43 (by first | (simp only [qName, c2, c3, c4, c6, decide_true, decide_false, Bool.not_true, Bool.not_false, Bool.and_true, Bool.true_and, Bool.and_false, Bool.false_and, Bool.or_true, Bool.true_or, Bool.or_false, Bool.false_or, Bool.and_self, Bool.or_self, if_true, if_false, ite_true, ite_false, Bool.false_eq_true, reduceIte, not_true_eq_false, not_false_eq_true, and_true, true_and, and_false, false_and, or_true, true_or, or_false, false_or, and_self, or_self, eq_self, decide_eq_true_eq, Bool.true_eq_false, reduceCtorEq, ne_eq]; done) | (simp [qName, c2, c3, c4, c6, Int32.not_lt.mp c2, Int32.not_lt.mp c3, Int32.not_lt.mpr c4, Int32.not_le.mp c6]; done))
      · skip
        refine lv_aload_n hx hb dX3_nameOf_22 rfl (lv_at hl 1 rfl) ?_
        refine lv_iload_n hx hb dX3_nameOf_23 rfl (lv_at hl 2 rfl) ?_
        refine lv_iconst (v := 0) hx hb dX3_nameOf_24 (by decide) ?_
        refine rcI (As := [.int o, .int 0]) (rest := []) ⟨hx, hb, hml, hown, hts⟩ (c_X3_byteOf l D Y ad t o 0 ho (hby 0 (by decide) (by exact Int32.not_le.mpr (Int32.lt_of_lt_of_le (by decide) (Int32.not_lt.mp c2))))) (cwV 2 hts gX3_nameOf_X3_byteOf rfl rfl rfl hdX3_byteOf ⟨Nat.le_of_ble_eq_true rfl, Nat.le_of_ble_eq_true rfl⟩) hP hK 0 4 rfl rfl rfl hl.1 rfl (Nat.le_of_ble_eq_true rfl) dX3_nameOf_25 ⟨(Nat.zero_le _), (Nat.zero_le _)⟩ (fun r12 hr12 => ?_)
        obtain rfl : r12 = qByte t o 0 := hr12
        refine lv_bipush (v := 48) hx hb dX3_nameOf_28 (by decide) ?_
        refine lv_icmp_eq (tgt := 42) hx hb dX3_nameOf_30 (by decide) (fun c13 => ?_) (fun c13 => ?_)
        · skip
          refine lv_iconst (v := (-1)) hx hb dX3_nameOf_42 (by decide) ?_
          exact reI hx hb hr hlocks dX3_nameOf_43 (by first | (simp only [qName, c2, c3, c4, c13, decide_true, decide_false, Bool.not_true, Bool.not_false, Bool.and_true, Bool.true_and, Bool.and_false, Bool.false_and, Bool.or_true, Bool.true_or, Bool.or_false, Bool.false_or, Bool.and_self, Bool.or_self, if_true, if_false, ite_true, ite_false, Bool.false_eq_true, reduceIte, not_true_eq_false, not_false_eq_true, and_true, true_and, and_false, false_and, or_true, true_or, or_false, false_or, and_self, or_self, eq_self, decide_eq_true_eq, Bool.true_eq_false, reduceCtorEq, ne_eq]; done) | (simp [qName, c2, c3, c4, c13, Int32.not_lt.mp c2, Int32.not_lt.mp c3, Int32.not_le.mp c4]; done) | (simp only [qName, c2, c3, c4, eq_true c13, decide_true, decide_false, Bool.not_true, Bool.not_false, Bool.and_true, Bool.true_and, Bool.and_false, Bool.false_and, Bool.or_true, Bool.true_or, Bool.or_false, Bool.false_or, Bool.and_self, Bool.or_self, if_true, if_false, ite_true, ite_false, Bool.false_eq_true, reduceIte, not_true_eq_false, not_false_eq_true, and_true, true_and, and_false, false_and, or_true, true_or, or_false, false_or, and_self, or_self, eq_self, decide_eq_true_eq, Bool.true_eq_false, reduceCtorEq, ne_eq]; done) | (simp [qName, c2, c3, c4, eq_true c13, Int32.not_lt.mp c2, Int32.not_lt.mp c3, Int32.not_le.mp c4]; done))
        · skip
          refine lv_aload_n hx hb dX3_nameOf_33 rfl (lv_at hl 1 rfl) ?_
          refine lv_iload_n hx hb dX3_nameOf_34 rfl (lv_at hl 2 rfl) ?_
          refine rcI (As := [.int o]) (rest := []) ⟨hx, hb, hml, hown, hts⟩ (c_X3_accessOf l D Y ad t o ho hh) (cwV 1 hts gX3_nameOf_X3_accessOf rfl rfl rfl hdX3_accessOf ⟨Nat.le_of_ble_eq_true rfl, Nat.le_of_ble_eq_true rfl⟩) hP hK 0 4 rfl rfl rfl hl.1 rfl (Nat.le_of_ble_eq_true rfl) dX3_nameOf_35 ⟨(Nat.zero_le _), (Nat.zero_le _)⟩ (fun r14 hr14 => ?_)
          obtain rfl : r14 = qAcc t o := hr14
          refine lv_iconst (v := 2) hx hb dX3_nameOf_38 (by decide) ?_
          refine lv_icmp_ge (tgt := 44) hx hb dX3_nameOf_39 (by decide) (fun c15 => ?_) (fun c15 => ?_)
          · skip
            refine lv_iconst (v := 0) hx hb dX3_nameOf_44 (by decide) ?_
            refine lv_istore_n (lv' := [(3, .int 0), (2, .int (mL t o)), (0, .ref (mO ad)), (1, .int o)]) hx hb dX3_nameOf_45 rfl hl (by decide) rfl (fun ls hl => ?_)
            refine lv_iconst (v := 0) hx hb dX3_nameOf_46 (by decide) ?_
            refine lv_istore (lv' := [(4, .int 0), (3, .int 0), (2, .int (mL t o)), (0, .ref (mO ad)), (1, .int o)]) hx hb dX3_nameOf_47 hl (by decide) rfl (fun ls hl => ?_)
            have LP : ∀ (n : Nat) (v z : Int32), ((mL t o).toInt - z.toInt).toNat < n → ¬ z < 0 → qNameL t o n z v = qName t o → ∀ ls : Array Slot, lv_has ls 6 [(4, .int z), (3, .int v), (2, .int (mL t o)), (0, .ref (mO ad)), (1, .int o)] → W p l e ({ frames := 2, cells := 0, slots := 0, locals := 42 }) s m ([.ref (mO ad), .int o] : List Value).toArray below meth c s.heap [] 0 0 (MQ below (vp_Si (fun ans => ans = qName t o)) ([.ref (mO ad), .int o] : List Value).toArray s 0 0 (fun _ => False)) (F0 m 49 ls []) := by
              intro n
              induction n with
              | zero => intro v z h9; exact absurd h9 (Nat.not_lt_zero _)
              | succ n ih =>
                intro v z hz hz0 hv ls hl
                refine lv_iload hx hb dX3_nameOf_49 (lv_at hl 0 rfl) ?_
                refine lv_iload_n hx hb dX3_nameOf_51 rfl (lv_at hl 2 rfl) ?_
                refine lv_icmp_ge (tgt := 97) hx hb dX3_nameOf_52 (by decide) (fun c16 => ?_) (fun c16 => ?_)
                · skip
                  refine lv_iload_n hx hb dX3_nameOf_97 rfl (lv_at hl 1 rfl) ?_
                  exact reI hx hb hr hlocks dX3_nameOf_98 (by first | (rw [← hv]; simp only [qNameL, c16, decide_true, decide_false, Bool.not_true, Bool.not_false, Bool.and_true, Bool.true_and, Bool.and_false, Bool.false_and, Bool.or_true, Bool.true_or, Bool.or_false, Bool.false_or, Bool.and_self, Bool.or_self, if_true, if_false, ite_true, ite_false, Bool.false_eq_true, reduceIte, not_true_eq_false, not_false_eq_true, and_true, true_and, and_false, false_and, or_true, true_or, or_false, false_or, and_self, or_self, eq_self, decide_eq_true_eq, Bool.true_eq_false, reduceCtorEq, ne_eq]; done) | (rw [← hv]; simp [qNameL, c16, Int32.not_lt.mp c2, Int32.not_lt.mp c3, Int32.not_le.mp c4, Int32.not_lt.mpr c15, Int32.not_lt.mpr c16]; done))
                · skip
                  refine lv_aload_n hx hb dX3_nameOf_55 rfl (lv_at hl 3 rfl) ?_
                  refine lv_iload_n hx hb dX3_nameOf_56 rfl (lv_at hl 4 rfl) ?_
                  refine lv_iload hx hb dX3_nameOf_57 (lv_at hl 0 rfl) ?_
                  refine rcI (As := [.int o, .int z]) (rest := []) ⟨hx, hb, hml, hown, hts⟩ (c_X3_byteOf l D Y ad t o z ho (hby z hz0 c16)) (cwV 2 hts gX3_nameOf_X3_byteOf rfl rfl rfl hdX3_byteOf ⟨Nat.le_of_ble_eq_true rfl, Nat.le_of_ble_eq_true rfl⟩) hP hK 0 4 rfl rfl rfl hl.1 rfl (Nat.le_of_ble_eq_true rfl) dX3_nameOf_59 ⟨(Nat.zero_le _), (Nat.zero_le _)⟩ (fun r17 hr17 => ?_)
                  obtain rfl : r17 = qByte t o z := hr17
                  refine lv_istore (lv' := [(5, .int (qByte t o z)), (4, .int z), (3, .int v), (2, .int (mL t o)), (0, .ref (mO ad)), (1, .int o)]) hx hb dX3_nameOf_62 hl (by decide) rfl (fun ls hl => ?_)
                  refine lv_iload hx hb dX3_nameOf_64 (lv_at hl 0 rfl) ?_
                  refine lv_bipush (v := 48) hx hb dX3_nameOf_66 (by decide) ?_
                  refine lv_icmp_lt (tgt := 78) hx hb dX3_nameOf_68 (by decide) (fun c18 => ?_) (fun c18 => ?_)
                  · skip
                    refine lv_iconst (v := (-1)) hx hb dX3_nameOf_78 (by decide) ?_
                    exact reI hx hb hr hlocks dX3_nameOf_79 (by first | (rw [← hv]; simp only [qNameL, c16, c18, decide_true, decide_false, Bool.not_true, Bool.not_false, Bool.and_true, Bool.true_and, Bool.and_false, Bool.false_and, Bool.or_true, Bool.true_or, Bool.or_false, Bool.false_or, Bool.and_self, Bool.or_self, if_true, if_false, ite_true, ite_false, Bool.false_eq_true, reduceIte, not_true_eq_false, not_false_eq_true, and_true, true_and, and_false, false_and, or_true, true_or, or_false, false_or, and_self, or_self, eq_self, decide_eq_true_eq, Bool.true_eq_false, reduceCtorEq, ne_eq]; done) | (rw [← hv]; simp [qNameL, c16, c18, Int32.not_lt.mp c2, Int32.not_lt.mp c3, Int32.not_le.mp c4, Int32.not_lt.mpr c15, Int32.not_le.mp c16, Int32.not_le.mpr c18]; done))
                  · skip
                    refine lv_iload hx hb dX3_nameOf_71 (lv_at hl 0 rfl) ?_
                    refine lv_bipush (v := 57) hx hb dX3_nameOf_73 (by decide) ?_
                    refine lv_icmp_le (tgt := 80) hx hb dX3_nameOf_75 (by decide) (fun c19 => ?_) (fun c19 => ?_)
                    · skip
                      refine lv_bipush (v := 10) hx hb dX3_nameOf_80 (by decide) ?_
                      refine lv_iload_n hx hb dX3_nameOf_82 rfl (lv_at hl 2 rfl) ?_
                      refine lv_imul hx hb dX3_nameOf_83 ?_
                      refine lv_iload hx hb dX3_nameOf_84 (lv_at hl 0 rfl) ?_
                      refine lv_iadd hx hb dX3_nameOf_86 ?_
                      refine lv_bipush (v := 48) hx hb dX3_nameOf_87 (by decide) ?_
                      refine lv_isub hx hb dX3_nameOf_89 ?_
                      refine lv_istore_n (lv' := [(3, .int (((10 * v) + (qByte t o z)) - 48)), (5, .int (qByte t o z)), (4, .int z), (2, .int (mL t o)), (0, .ref (mO ad)), (1, .int o)]) hx hb dX3_nameOf_90 rfl hl (by decide) rfl (fun ls hl => ?_)
                      obtain ⟨z20, ez20⟩ : ∃ y : Int32, y = z + 1 := ⟨_, rfl⟩
                      refine lv_iinc (v := z20) (lv' := [(4, .int z20), (3, .int (((10 * v) + (qByte t o z)) - 48)), (5, .int (qByte t o z)), (2, .int (mL t o)), (0, .ref (mO ad)), (1, .int o)]) hx hb dX3_nameOf_91 hl (k := 2) rfl (by rw [ez20]; rfl) (by decide) rfl (fun ls hl => ?_)
                      refine lv_goto (tgt := 49) hx hb dX3_nameOf_94 (by decide) ?_
                      exact ih (((10 * v) + (qByte t o z)) - 48) z20 (mstep c16 hz ez20) (nnstep c16 hz0 ez20) (by first | (rw [← hv]; simp only [qNameL, c16, c18, c19, ez20, decide_true, decide_false, Bool.not_true, Bool.not_false, Bool.and_true, Bool.true_and, Bool.and_false, Bool.false_and, Bool.or_true, Bool.true_or, Bool.or_false, Bool.false_or, Bool.and_self, Bool.or_self, if_true, if_false, ite_true, ite_false, Bool.false_eq_true, reduceIte, not_true_eq_false, not_false_eq_true, and_true, true_and, and_false, false_and, or_true, true_or, or_false, false_or, and_self, or_self, eq_self, decide_eq_true_eq, Bool.true_eq_false, reduceCtorEq, ne_eq]; done) | (rw [← hv]; simp [qNameL, c16, c18, c19, ez20, Int32.not_lt.mp c2, Int32.not_lt.mp c3, Int32.not_le.mp c4, Int32.not_lt.mpr c15, Int32.not_le.mp c16, Int32.not_lt.mp c18, Int32.not_lt.mpr c19]; done)) ls (lv_sub hl [0, 1, 3, 4, 5] rfl)
                    · skip
                      refine lv_iconst (v := (-1)) hx hb dX3_nameOf_78 (by decide) ?_
                      exact reI hx hb hr hlocks dX3_nameOf_79 (by first | (rw [← hv]; simp only [qNameL, c16, c18, c19, decide_true, decide_false, Bool.not_true, Bool.not_false, Bool.and_true, Bool.true_and, Bool.and_false, Bool.false_and, Bool.or_true, Bool.true_or, Bool.or_false, Bool.false_or, Bool.and_self, Bool.or_self, if_true, if_false, ite_true, ite_false, Bool.false_eq_true, reduceIte, not_true_eq_false, not_false_eq_true, and_true, true_and, and_false, false_and, or_true, true_or, or_false, false_or, and_self, or_self, eq_self, decide_eq_true_eq, Bool.true_eq_false, reduceCtorEq, ne_eq]; done) | (rw [← hv]; simp [qNameL, c16, c18, c19, Int32.not_lt.mp c2, Int32.not_lt.mp c3, Int32.not_le.mp c4, Int32.not_lt.mpr c15, Int32.not_le.mp c16, Int32.not_lt.mp c18, Int32.not_le.mp c19]; done))
            exact LP ((mL t o).toInt.toNat + 1) 0 0 (by rw [show ((0 : Int32)).toInt = 0 from rfl]; omega) (by decide) (by first | (simp only [qName, c2, c3, c4, c13, c15, decide_true, decide_false, Bool.not_true, Bool.not_false, Bool.and_true, Bool.true_and, Bool.and_false, Bool.false_and, Bool.or_true, Bool.true_or, Bool.or_false, Bool.false_or, Bool.and_self, Bool.or_self, if_true, if_false, ite_true, ite_false, Bool.false_eq_true, reduceIte, not_true_eq_false, not_false_eq_true, and_true, true_and, and_false, false_and, or_true, true_or, or_false, false_or, and_self, or_self, eq_self, decide_eq_true_eq, Bool.true_eq_false, reduceCtorEq, ne_eq]; done) | (simp [qName, c2, c3, c4, c13, c15, Int32.not_lt.mp c2, Int32.not_lt.mp c3, Int32.not_le.mp c4, Int32.not_lt.mpr c15]; done)) ls (lv_sub hl [0, 1, 2, 3, 4] rfl)
          · skip
            refine lv_iconst (v := (-1)) hx hb dX3_nameOf_42 (by decide) ?_
            exact reI hx hb hr hlocks dX3_nameOf_43 (by first | (simp only [qName, c2, c3, c4, c13, c15, decide_true, decide_false, Bool.not_true, Bool.not_false, Bool.and_true, Bool.true_and, Bool.and_false, Bool.false_and, Bool.or_true, Bool.true_or, Bool.or_false, Bool.false_or, Bool.and_self, Bool.or_self, if_true, if_false, ite_true, ite_false, Bool.false_eq_true, reduceIte, not_true_eq_false, not_false_eq_true, and_true, true_and, and_false, false_and, or_true, true_or, or_false, false_or, and_self, or_self, eq_self, decide_eq_true_eq, Bool.true_eq_false, reduceCtorEq, ne_eq]; done) | (simp [qName, c2, c3, c4, c13, c15, Int32.not_lt.mp c2, Int32.not_lt.mp c3, Int32.not_le.mp c4, Int32.not_le.mp c15]; done))
theorem hdX3_nameOf : yX3_nameOf.cls = RX3 ∧ yX3_nameOf.cls ≠ "java/lang/invoke/MethodHandle" ∧ yX3_nameOf.cls ≠ "java/lang/invoke/VarHandle" ∧ (parseMethodDescriptor yX3_nameOf.desc).map (fun d => d.parameters.length) = some 1 := by decide +kernel
set_option maxHeartbeats 4000000 in
set_option maxRecDepth 100000 in
theorem c_X3_code (l : Launch) (D : va_G) (Y : Nat → ClassId) (ad : MA) (t : MS) (o : Int32) (ho : vp_in o 100) (hh : vp_in (qHolder t o) 400) (hby : mK t o = 4 → ∀ i : Int32, ¬ i < 0 → ¬ mL t o ≤ i → vp_in (64 * mNu t o + mFr t o + i) 6400) : Met l yX3_code wsX3_code ({ frames := 3, cells := 0, slots := 0, locals := 67 }) (rdPc D Y [.ref (mO ad), .int o] (mW Y ad t)) (vp_Sl (fun ans => ans = qCode t o)) 0 0 (fun _ => False) := by
  refine rdOf (cc := cX3_code) (maxL := 4) (ret := (some .long)) (own := RX3) (by decide) rfl rfl (Nat.le_of_ble_eq_true rfl) ?_
  intro p e s m below meth c ls hx hb hr hts hown hml hlocks hP hK hl
  have iwX3 : ∀ w ∈ u_ws RX3 TX3 19, w ∈ wsX3_code := fun _ h => List.mem_cons_of_mem _ (List.mem_append_right _ h)
  have hl : lv_has ls 4 [(0, .ref (mO ad)), (1, .int o)] := hl
  refine lv_aload_n hx hb dX3_code_0 rfl (lv_at hl 0 rfl) ?_
  refine va_get (D := D) (ci := 4) (v := .ref (mH ad 0)) (C := RX3) (T := TX3) (N := 19) hx hb hts iwX3 hown hK hP 0 rfl rfl 4 (by decide) (hts (.fieldLink RX3 16 "ObjectRowsModel" "kinds" "[I") (by decide +kernel)) (fun _ h9 => h9) rfl dX3_code_1 ?_
  refine lv_iload_n hx hb dX3_code_4 rfl (lv_at hl 1 rfl) ?_
  refine va_iald hx hb hK hP 1 0 rfl rfl ho dX3_code_5 ?_
  refine lv_topi (fun y1 ey1 => ?_)
  obtain rfl : y1 = mK t o := ey1
  refine lv_istore_n (lv' := [(2, .int (mK t o)), (0, .ref (mO ad)), (1, .int o)]) hx hb dX3_code_6 rfl hl (by decide) rfl (fun ls hl => ?_)
  refine lv_iload_n hx hb dX3_code_7 rfl (lv_at hl 0 rfl) ?_
  by_cases c2 : mK t o = 0 ∨ mK t o = 8
  · refine lv_tableIn (off := 52) (tgt := 60) hx hb dX3_code_8 (by rcases c2 with c2 | c2 <;> rw [c2] <;> decide) (by rcases c2 with c2 | c2 <;> rw [c2] <;> decide) (by rcases c2 with c2 | c2 <;> rw [c2] <;> decide) (by decide) ?_
    refine lv_iload_n hx hb dX3_code_60 rfl (lv_at hl 0 rfl) ?_
    refine lv_iconst (v := 0) hx hb dX3_code_61 (by decide) ?_
    refine scL (As := [.int (mK t o), .int 0]) (rest := []) ⟨hx, hb, hml, hown, hts⟩ (c_X3_coded l (mK t o) 0) (va_cwS 2 hts gX3_code_X3_coded rfl rfl rfl hdX3_coded ⟨Nat.le_of_ble_eq_true rfl, Nat.le_of_ble_eq_true rfl⟩) rfl hl.1 rfl (Nat.le_of_ble_eq_true rfl) dX3_code_62 ⟨(Nat.zero_le _), (Nat.zero_le _)⟩ (fun r3 hr3 => ?_)
    obtain rfl : r3 = qCoded (mK t o) 0 := hr3
    exact reL hx hb hr hlocks dX3_code_65 (by first | (simp only [qCode, c2, decide_true, decide_false, Bool.not_true, Bool.not_false, Bool.and_true, Bool.true_and, Bool.and_false, Bool.false_and, Bool.or_true, Bool.true_or, Bool.or_false, Bool.false_or, Bool.and_self, Bool.or_self, if_true, if_false, ite_true, ite_false, Bool.false_eq_true, reduceIte, not_true_eq_false, not_false_eq_true, and_true, true_and, and_false, false_and, or_true, true_or, or_false, false_or, and_self, or_self, eq_self, decide_eq_true_eq, Bool.true_eq_false, reduceCtorEq, ne_eq]; done) | (simp [qCode, c2]; done))
  by_cases c4 : mK t o = 4
  · refine lv_tableIn (off := 58) (tgt := 66) hx hb dX3_code_8 (by rw [c4]; decide) (by rw [c4]; decide) (by rw [c4]; decide) (by decide) ?_
    refine lv_aload_n hx hb dX3_code_66 rfl (lv_at hl 1 rfl) ?_
    refine lv_iload_n hx hb dX3_code_67 rfl (lv_at hl 2 rfl) ?_
    refine rcI (As := [.int o]) (rest := []) ⟨hx, hb, hml, hown, hts⟩ (c_X3_nameOf l D Y ad t o ho hh (hby c4)) (cwV 1 hts gX3_code_X3_nameOf rfl rfl rfl hdX3_nameOf ⟨Nat.le_of_ble_eq_true rfl, Nat.le_of_ble_eq_true rfl⟩) hP hK 0 4 rfl rfl rfl hl.1 rfl (Nat.le_of_ble_eq_true rfl) dX3_code_68 ⟨(Nat.zero_le _), (Nat.zero_le _)⟩ (fun r5 hr5 => ?_)
    obtain rfl : r5 = qName t o := hr5
    refine lv_istore_n (lv' := [(3, .int (qName t o)), (2, .int (mK t o)), (0, .ref (mO ad)), (1, .int o)]) hx hb dX3_code_71 rfl hl (by decide) rfl (fun ls hl => ?_)
    refine lv_iload_n hx hb dX3_code_72 rfl (lv_at hl 0 rfl) ?_
    refine lv_if_ge (tgt := 82) hx hb dX3_code_73 (by decide) (fun c6 => ?_) (fun c6 => ?_)
    · skip
      refine lv_iconst (v := 3) hx hb dX3_code_82 (by decide) ?_
      refine lv_iload_n hx hb dX3_code_83 rfl (lv_at hl 0 rfl) ?_
      refine scL (As := [.int 3, .int (qName t o)]) (rest := []) ⟨hx, hb, hml, hown, hts⟩ (c_X3_coded l 3 (qName t o)) (va_cwS 2 hts gX3_code_X3_coded rfl rfl rfl hdX3_coded ⟨Nat.le_of_ble_eq_true rfl, Nat.le_of_ble_eq_true rfl⟩) rfl hl.1 rfl (Nat.le_of_ble_eq_true rfl) dX3_code_84 ⟨(Nat.zero_le _), (Nat.zero_le _)⟩ (fun r7 hr7 => ?_)
      obtain rfl : r7 = qCoded 3 (qName t o) := hr7
      exact reL hx hb hr hlocks dX3_code_87 (by first | (simp only [qCode, c2, c4, c6, decide_true, decide_false, Bool.not_true, Bool.not_false, Bool.and_true, Bool.true_and, Bool.and_false, Bool.false_and, Bool.or_true, Bool.true_or, Bool.or_false, Bool.false_or, Bool.and_self, Bool.or_self, if_true, if_false, ite_true, ite_false, Bool.false_eq_true, reduceIte, not_true_eq_false, not_false_eq_true, and_true, true_and, and_false, false_and, or_true, true_or, or_false, false_or, and_self, or_self, eq_self, decide_eq_true_eq, Bool.true_eq_false, reduceCtorEq, ne_eq]; done) | (simp [qCode, c2, c4, c6, Int32.not_lt.mpr c6]; done))
    · skip
      refine lv_ldc2 (v := (-1)) hx hb hown (hts (.constantLong RX3 116 (-1)) (by decide +kernel)) dX3_code_76 ?_
      refine lv_goto (tgt := 87) hx hb dX3_code_79 (by decide) ?_
      exact reL hx hb hr hlocks dX3_code_87 (by first | (simp only [qCode, c2, c4, c6, decide_true, decide_false, Bool.not_true, Bool.not_false, Bool.and_true, Bool.true_and, Bool.and_false, Bool.false_and, Bool.or_true, Bool.true_or, Bool.or_false, Bool.false_or, Bool.and_self, Bool.or_self, if_true, if_false, ite_true, ite_false, Bool.false_eq_true, reduceIte, not_true_eq_false, not_false_eq_true, and_true, true_and, and_false, false_and, or_true, true_or, or_false, false_or, and_self, or_self, eq_self, decide_eq_true_eq, Bool.true_eq_false, reduceCtorEq, ne_eq]; done) | (simp [qCode, c2, c4, c6, Int32.not_le.mp c6]; done))
  by_cases c8 : mK t o = 5 ∨ mK t o = 6
  · refine lv_tableIn (off := 80) (tgt := 88) hx hb dX3_code_8 (by rcases c8 with c8 | c8 <;> rw [c8] <;> decide) (by rcases c8 with c8 | c8 <;> rw [c8] <;> decide) (by rcases c8 with c8 | c8 <;> rw [c8] <;> decide) (by decide) ?_
    refine lv_aload_n hx hb dX3_code_88 rfl (lv_at hl 1 rfl) ?_
    refine va_get (D := D) (ci := 4) (v := .ref (mH ad 3)) (C := RX3) (T := TX3) (N := 19) hx hb hts iwX3 hown hK hP 0 rfl rfl 7 (by decide) (hts (.fieldLink RX3 26 "ObjectRowsModel" "lengths" "[I") (by decide +kernel)) (fun _ h9 => h9) rfl dX3_code_89 ?_
    refine lv_iload_n hx hb dX3_code_92 rfl (lv_at hl 2 rfl) ?_
    refine va_iald hx hb hK hP 4 0 rfl rfl ho dX3_code_93 ?_
    refine lv_topi (fun y9 ey9 => ?_)
    obtain rfl : y9 = mL t o := ey9
    refine lv_if_ne (tgt := 105) hx hb dX3_code_94 (by decide) (fun c10 => ?_) (fun c10 => ?_)
    · skip
      refine lv_iload_n hx hb dX3_code_105 rfl (lv_at hl 0 rfl) ?_
      refine lv_sipush (v := 4096) hx hb dX3_code_106 (by decide) ?_
      refine lv_aload_n hx hb dX3_code_109 rfl (lv_at hl 1 rfl) ?_
      refine va_get (D := D) (ci := 4) (v := .ref (mH ad 1)) (C := RX3) (T := TX3) (N := 19) hx hb hts iwX3 hown hK hP 0 rfl rfl 5 (by decide) (hts (.fieldLink RX3 20 "ObjectRowsModel" "numbers" "[I") (by decide +kernel)) (fun _ h9 => h9) rfl dX3_code_110 ?_
      refine lv_iload_n hx hb dX3_code_113 rfl (lv_at hl 2 rfl) ?_
      refine va_iald hx hb hK hP 2 0 rfl rfl ho dX3_code_114 ?_
      refine lv_topi (fun y11 ey11 => ?_)
      obtain rfl : y11 = mNu t o := ey11
      refine lv_imul hx hb dX3_code_115 ?_
      refine lv_bipush (v := 64) hx hb dX3_code_116 (by decide) ?_
      refine lv_aload_n hx hb dX3_code_118 rfl (lv_at hl 1 rfl) ?_
      refine va_get (D := D) (ci := 4) (v := .ref (mH ad 2)) (C := RX3) (T := TX3) (N := 19) hx hb hts iwX3 hown hK hP 0 rfl rfl 6 (by decide) (hts (.fieldLink RX3 23 "ObjectRowsModel" "froms" "[I") (by decide +kernel)) (fun _ h9 => h9) rfl dX3_code_119 ?_
      refine lv_iload_n hx hb dX3_code_122 rfl (lv_at hl 2 rfl) ?_
      refine va_iald hx hb hK hP 3 0 rfl rfl ho dX3_code_123 ?_
      refine lv_topi (fun y12 ey12 => ?_)
      obtain rfl : y12 = mFr t o := ey12
      refine lv_imul hx hb dX3_code_124 ?_
      refine lv_iadd hx hb dX3_code_125 ?_
      refine lv_aload_n hx hb dX3_code_126 rfl (lv_at hl 1 rfl) ?_
      refine va_get (D := D) (ci := 4) (v := .ref (mH ad 3)) (C := RX3) (T := TX3) (N := 19) hx hb hts iwX3 hown hK hP 0 rfl rfl 7 (by decide) (hts (.fieldLink RX3 26 "ObjectRowsModel" "lengths" "[I") (by decide +kernel)) (fun _ h9 => h9) rfl dX3_code_127 ?_
      refine lv_iload_n hx hb dX3_code_130 rfl (lv_at hl 2 rfl) ?_
      refine va_iald hx hb hK hP 4 0 rfl rfl ho dX3_code_131 ?_
      refine lv_topi (fun y13 ey13 => ?_)
      obtain rfl : y13 = mL t o := ey13
      refine lv_iadd hx hb dX3_code_132 ?_
      refine scL (As := [.int (mK t o), .int (((4096 * (mNu t o)) + (64 * (mFr t o))) + (mL t o))]) (rest := []) ⟨hx, hb, hml, hown, hts⟩ (c_X3_coded l (mK t o) (((4096 * (mNu t o)) + (64 * (mFr t o))) + (mL t o))) (va_cwS 2 hts gX3_code_X3_coded rfl rfl rfl hdX3_coded ⟨Nat.le_of_ble_eq_true rfl, Nat.le_of_ble_eq_true rfl⟩) rfl hl.1 rfl (Nat.le_of_ble_eq_true rfl) dX3_code_133 ⟨(Nat.zero_le _), (Nat.zero_le _)⟩ (fun r14 hr14 => ?_)
      obtain rfl : r14 = qCoded (mK t o) (((4096 * (mNu t o)) + (64 * (mFr t o))) + (mL t o)) := hr14
      exact reL hx hb hr hlocks dX3_code_136 (by first | (simp only [qCode, c2, c4, c8, c10, decide_true, decide_false, Bool.not_true, Bool.not_false, Bool.and_true, Bool.true_and, Bool.and_false, Bool.false_and, Bool.or_true, Bool.true_or, Bool.or_false, Bool.false_or, Bool.and_self, Bool.or_self, if_true, if_false, ite_true, ite_false, Bool.false_eq_true, reduceIte, not_true_eq_false, not_false_eq_true, and_true, true_and, and_false, false_and, or_true, true_or, or_false, false_or, and_self, or_self, eq_self, decide_eq_true_eq, Bool.true_eq_false, reduceCtorEq, ne_eq]; done) | (simp [qCode, c2, c4, c8, c10]; done))
    · skip
      refine lv_iconst (v := 5) hx hb dX3_code_97 (by decide) ?_
      refine lv_iconst (v := (-1)) hx hb dX3_code_98 (by decide) ?_
      refine scL (As := [.int 5, .int (-1)]) (rest := []) ⟨hx, hb, hml, hown, hts⟩ (c_X3_coded l 5 (-1)) (va_cwS 2 hts gX3_code_X3_coded rfl rfl rfl hdX3_coded ⟨Nat.le_of_ble_eq_true rfl, Nat.le_of_ble_eq_true rfl⟩) rfl hl.1 rfl (Nat.le_of_ble_eq_true rfl) dX3_code_99 ⟨(Nat.zero_le _), (Nat.zero_le _)⟩ (fun r15 hr15 => ?_)
      obtain rfl : r15 = qCoded 5 (-1) := hr15
      refine lv_goto (tgt := 136) hx hb dX3_code_102 (by decide) ?_
      exact reL hx hb hr hlocks dX3_code_136 (by first | (simp only [qCode, c2, c4, c8, c10, decide_true, decide_false, Bool.not_true, Bool.not_false, Bool.and_true, Bool.true_and, Bool.and_false, Bool.false_and, Bool.or_true, Bool.true_or, Bool.or_false, Bool.false_or, Bool.and_self, Bool.or_self, if_true, if_false, ite_true, ite_false, Bool.false_eq_true, reduceIte, not_true_eq_false, not_false_eq_true, and_true, true_and, and_false, false_and, or_true, true_or, or_false, false_or, and_self, or_self, eq_self, decide_eq_true_eq, Bool.true_eq_false, reduceCtorEq, ne_eq]; done) | (simp [qCode, c2, c4, c8, c10]; done) | (simp only [qCode, c2, c4, c8, eq_true c10, decide_true, decide_false, Bool.not_true, Bool.not_false, Bool.and_true, Bool.true_and, Bool.and_false, Bool.false_and, Bool.or_true, Bool.true_or, Bool.or_false, Bool.false_or, Bool.and_self, Bool.or_self, if_true, if_false, ite_true, ite_false, Bool.false_eq_true, reduceIte, not_true_eq_false, not_false_eq_true, and_true, true_and, and_false, false_and, or_true, true_or, or_false, false_or, and_self, or_self, eq_self, decide_eq_true_eq, Bool.true_eq_false, reduceCtorEq, ne_eq]; done) | (simp [qCode, c2, c4, c8, eq_true c10]; done))
  refine lv_tableD (tgt := 137) hx hb dX3_code_8 (tblD (ks := [0, 8, 4, 5, 6]) (by decide) (List.forall_mem_cons.mpr ⟨neI (fun h9 => c2 (Or.inl h9)) (by decide), (List.forall_mem_cons.mpr ⟨neI (fun h9 => c2 (Or.inr (h9))) (by decide), (List.forall_mem_cons.mpr ⟨neI c4 (by decide), (List.forall_mem_cons.mpr ⟨neI (fun h9 => c8 (Or.inl h9)) (by decide), (List.forall_mem_cons.mpr ⟨neI (fun h9 => c8 (Or.inr (h9))) (by decide), (fun _ h => absurd h List.not_mem_nil)⟩)⟩)⟩)⟩)⟩) (by decide)) (by decide) ?_
  refine lv_iload_n hx hb dX3_code_137 rfl (lv_at hl 0 rfl) ?_
  refine lv_aload_n hx hb dX3_code_138 rfl (lv_at hl 1 rfl) ?_
  refine va_get (D := D) (ci := 4) (v := .ref (mH ad 1)) (C := RX3) (T := TX3) (N := 19) hx hb hts iwX3 hown hK hP 0 rfl rfl 5 (by decide) (hts (.fieldLink RX3 20 "ObjectRowsModel" "numbers" "[I") (by decide +kernel)) (fun _ h9 => h9) rfl dX3_code_139 ?_
  refine lv_iload_n hx hb dX3_code_142 rfl (lv_at hl 2 rfl) ?_
  refine va_iald hx hb hK hP 2 0 rfl rfl ho dX3_code_143 ?_
  refine lv_topi (fun y16 ey16 => ?_)
  obtain rfl : y16 = mNu t o := ey16
  refine scL (As := [.int (mK t o), .int (mNu t o)]) (rest := []) ⟨hx, hb, hml, hown, hts⟩ (c_X3_coded l (mK t o) (mNu t o)) (va_cwS 2 hts gX3_code_X3_coded rfl rfl rfl hdX3_coded ⟨Nat.le_of_ble_eq_true rfl, Nat.le_of_ble_eq_true rfl⟩) rfl hl.1 rfl (Nat.le_of_ble_eq_true rfl) dX3_code_144 ⟨(Nat.zero_le _), (Nat.zero_le _)⟩ (fun r17 hr17 => ?_)
  obtain rfl : r17 = qCoded (mK t o) (mNu t o) := hr17
  exact reL hx hb hr hlocks dX3_code_147 (by first | (simp only [qCode, c2, c4, c8, decide_true, decide_false, Bool.not_true, Bool.not_false, Bool.and_true, Bool.true_and, Bool.and_false, Bool.false_and, Bool.or_true, Bool.true_or, Bool.or_false, Bool.false_or, Bool.and_self, Bool.or_self, if_true, if_false, ite_true, ite_false, Bool.false_eq_true, reduceIte, not_true_eq_false, not_false_eq_true, and_true, true_and, and_false, false_and, or_true, true_or, or_false, false_or, and_self, or_self, eq_self, decide_eq_true_eq, Bool.true_eq_false, reduceCtorEq, ne_eq]; done) | (simp [qCode, c2, c4, c8]; done))
theorem hdX3_code : yX3_code.cls = RX3 ∧ yX3_code.cls ≠ "java/lang/invoke/MethodHandle" ∧ yX3_code.cls ≠ "java/lang/invoke/VarHandle" ∧ (parseMethodDescriptor yX3_code.desc).map (fun d => d.parameters.length) = some 1 := by decide +kernel
set_option maxHeartbeats 4000000 in
set_option maxRecDepth 100000 in
theorem c_X3_isKey (l : Launch) (D : va_G) (Y : Nat → ClassId) (ad : MA) (t : MS) (o : Int32) (ho : vp_in o 100) (hh : vp_in (qHolder t o) 400) (hby : mK t o = 4 → ∀ i : Int32, ¬ i < 0 → ¬ mL t o ≤ i → vp_in (64 * mNu t o + mFr t o + i) 6400) : Met l yX3_isKey wsX3_isKey ({ frames := 4, cells := 0, slots := 0, locals := 90 }) (rdPc D Y [.ref (mO ad), .int o] (mW Y ad t)) (vp_Si (fun ans => ans = bI (qKey t o))) 0 0 (fun _ => False) := by
  refine rdOf (cc := cX3_isKey) (maxL := 2) (ret := (some .boolean)) (own := RX3) (by decide) rfl rfl (Nat.le_of_ble_eq_true rfl) ?_
  intro p e s m below meth c ls hx hb hr hts hown hml hlocks hP hK hl
  have iwX3 : ∀ w ∈ u_ws RX3 TX3 19, w ∈ wsX3_isKey := fun _ h => List.mem_cons_of_mem _ (List.mem_append_right _ h)
  have hl : lv_has ls 2 [(0, .ref (mO ad)), (1, .int o)] := hl
  refine lv_aload_n hx hb dX3_isKey_0 rfl (lv_at hl 0 rfl) ?_
  refine va_get (D := D) (ci := 4) (v := .ref (mH ad 0)) (C := RX3) (T := TX3) (N := 19) hx hb hts iwX3 hown hK hP 0 rfl rfl 4 (by decide) (hts (.fieldLink RX3 16 "ObjectRowsModel" "kinds" "[I") (by decide +kernel)) (fun _ h9 => h9) rfl dX3_isKey_1 ?_
  refine lv_iload_n hx hb dX3_isKey_4 rfl (lv_at hl 1 rfl) ?_
  refine va_iald hx hb hK hP 1 0 rfl rfl ho dX3_isKey_5 ?_
  refine lv_topi (fun y1 ey1 => ?_)
  obtain rfl : y1 = mK t o := ey1
  refine lv_if_eq (tgt := 23) hx hb dX3_isKey_6 (by decide) (fun c2 => ?_) (fun c2 => ?_)
  · skip
    refine lv_iconst (v := 0) hx hb dX3_isKey_23 (by decide) ?_
    exact reZ hx hb hr hlocks dX3_isKey_24 (by first | exact Or.inl rfl | exact Or.inr rfl | exact bI_01 _ | (rename_i h9; rw [h9]; exact bI_01 _) | (subst_vars; exact bI_01 _)) (by first | (simp only [qKey, bI, c2, decide_true, decide_false, Bool.not_true, Bool.not_false, Bool.and_true, Bool.true_and, Bool.and_false, Bool.false_and, Bool.or_true, Bool.true_or, Bool.or_false, Bool.false_or, Bool.and_self, Bool.or_self, if_true, if_false, ite_true, ite_false, Bool.false_eq_true, reduceIte, not_true_eq_false, not_false_eq_true, and_true, true_and, and_false, false_and, or_true, true_or, or_false, false_or, and_self, or_self, eq_self, decide_eq_true_eq, Bool.true_eq_false, reduceCtorEq, ne_eq]; done) | (simp [qKey, bI, c2]; done) | (simp only [qKey, bI, eq_true c2, decide_true, decide_false, Bool.not_true, Bool.not_false, Bool.and_true, Bool.true_and, Bool.and_false, Bool.false_and, Bool.or_true, Bool.true_or, Bool.or_false, Bool.false_or, Bool.and_self, Bool.or_self, if_true, if_false, ite_true, ite_false, Bool.false_eq_true, reduceIte, not_true_eq_false, not_false_eq_true, and_true, true_and, and_false, false_and, or_true, true_or, or_false, false_or, and_self, or_self, eq_self, decide_eq_true_eq, Bool.true_eq_false, reduceCtorEq, ne_eq]; done) | (simp [qKey, bI, eq_true c2]; done))
  · skip
    refine lv_aload_n hx hb dX3_isKey_9 rfl (lv_at hl 0 rfl) ?_
    refine lv_iload_n hx hb dX3_isKey_10 rfl (lv_at hl 1 rfl) ?_
    refine rcL (As := [.int o]) (rest := []) ⟨hx, hb, hml, hown, hts⟩ (c_X3_code l D Y ad t o ho hh hby) (cwV 1 hts gX3_isKey_X3_code rfl rfl rfl hdX3_code ⟨Nat.le_of_ble_eq_true rfl, Nat.le_of_ble_eq_true rfl⟩) hP hK 0 4 rfl rfl rfl hl.1 rfl (Nat.le_of_ble_eq_true rfl) dX3_isKey_11 ⟨(Nat.zero_le _), (Nat.zero_le _)⟩ (fun r3 hr3 => ?_)
    obtain rfl : r3 = qCode t o := hr3
    refine lv_lconst (v := 0) hx hb dX3_isKey_14 (by decide) ?_
    refine W.lcmp hx hb dX3_isKey_15 ?_
    refine lv_if_lt (tgt := 23) hx hb dX3_isKey_16 (by decide) (fun c4 => ?_) (fun c4 => ?_)
    · skip
      replace c4 := lgc_lt c4
      refine lv_iconst (v := 0) hx hb dX3_isKey_23 (by decide) ?_
      exact reZ hx hb hr hlocks dX3_isKey_24 (by first | exact Or.inl rfl | exact Or.inr rfl | exact bI_01 _ | (rename_i h9; rw [h9]; exact bI_01 _) | (subst_vars; exact bI_01 _)) (by first | (simp only [qKey, bI, c2, c4, decide_true, decide_false, Bool.not_true, Bool.not_false, Bool.and_true, Bool.true_and, Bool.and_false, Bool.false_and, Bool.or_true, Bool.true_or, Bool.or_false, Bool.false_or, Bool.and_self, Bool.or_self, if_true, if_false, ite_true, ite_false, Bool.false_eq_true, reduceIte, not_true_eq_false, not_false_eq_true, and_true, true_and, and_false, false_and, or_true, true_or, or_false, false_or, and_self, or_self, eq_self, decide_eq_true_eq, Bool.true_eq_false, reduceCtorEq, ne_eq]; done) | (simp [qKey, bI, c2, c4]; done))
    · skip
      replace c4 := lgc_nlt c4
      refine lv_iconst (v := 1) hx hb dX3_isKey_19 (by decide) ?_
      refine lv_goto (tgt := 24) hx hb dX3_isKey_20 (by decide) ?_
      exact reZ hx hb hr hlocks dX3_isKey_24 (by first | exact Or.inl rfl | exact Or.inr rfl | exact bI_01 _ | (rename_i h9; rw [h9]; exact bI_01 _) | (subst_vars; exact bI_01 _)) (by first | (simp only [qKey, bI, c2, c4, decide_true, decide_false, Bool.not_true, Bool.not_false, Bool.and_true, Bool.true_and, Bool.and_false, Bool.false_and, Bool.or_true, Bool.true_or, Bool.or_false, Bool.false_or, Bool.and_self, Bool.or_self, if_true, if_false, ite_true, ite_false, Bool.false_eq_true, reduceIte, not_true_eq_false, not_false_eq_true, and_true, true_and, and_false, false_and, or_true, true_or, or_false, false_or, and_self, or_self, eq_self, decide_eq_true_eq, Bool.true_eq_false, reduceCtorEq, ne_eq]; done) | (simp [qKey, bI, c2, c4]; done))
theorem hdX3_isKey : yX3_isKey.cls = RX3 ∧ yX3_isKey.cls ≠ "java/lang/invoke/MethodHandle" ∧ yX3_isKey.cls ≠ "java/lang/invoke/VarHandle" ∧ (parseMethodDescriptor yX3_isKey.desc).map (fun d => d.parameters.length) = some 1 := by decide +kernel
set_option maxHeartbeats 4000000 in
set_option maxRecDepth 100000 in
theorem c_X3_order (l : Launch) (D : va_G) (Y : Nat → ClassId) (ad : MA) (t : MS) (a : Int32) (b : Int32) (ha : vp_in a 100) (hb_ : vp_in b 100) (hbya : ∀ i : Int32, ¬ i < 0 → ¬ mL t a ≤ i → vp_in (64 * mNu t a + mFr t a + i) 6400) (hbyb : ∀ i : Int32, ¬ i < 0 → ¬ mL t b ≤ i → vp_in (64 * mNu t b + mFr t b + i) 6400) : Met l yX3_order wsX3_order ({ frames := 1, cells := 0, slots := 0, locals := 22 }) (rdPc D Y [.ref (mO ad), .int a, .int b] (mW Y ad t)) (vp_Si (fun ans => ans = qOrd t a b)) 0 0 (fun _ => False) := by
  refine rdOf (cc := cX3_order) (maxL := 6) (ret := (some .int)) (own := RX3) (by decide) rfl rfl (Nat.le_of_ble_eq_true rfl) ?_
  intro p e s m below meth c ls hx hb hr hts hown hml hlocks hP hK hl
  have iwX3 : ∀ w ∈ u_ws RX3 TX3 19, w ∈ wsX3_order := fun _ h => List.mem_cons_of_mem _ (List.mem_append_right _ h)
  have hl : lv_has ls 6 [(0, .ref (mO ad)), (1, .int a), (2, .int b)] := hl
  refine lv_iconst (v := 0) hx hb dX3_order_0 (by decide) ?_
  refine lv_istore_n (lv' := [(3, .int 0), (0, .ref (mO ad)), (1, .int a), (2, .int b)]) hx hb dX3_order_1 rfl hl (by decide) rfl (fun ls hl => ?_)
  have LP : ∀ (n : Nat) (z : Int32), ((mL t a).toInt - z.toInt).toNat < n → ¬ z < 0 → qOrdL t a b n z = qOrd t a b → ∀ ls : Array Slot, lv_has ls 6 [(3, .int z), (0, .ref (mO ad)), (1, .int a), (2, .int b)] → W p l e ({ frames := 1, cells := 0, slots := 0, locals := 22 }) s m ([.ref (mO ad), .int a, .int b] : List Value).toArray below meth c s.heap [] 0 0 (MQ below (vp_Si (fun ans => ans = qOrd t a b)) ([.ref (mO ad), .int a, .int b] : List Value).toArray s 0 0 (fun _ => False)) (F0 m 2 ls []) := by
    intro n
    induction n with
    | zero => intro z h9; exact absurd h9 (Nat.not_lt_zero _)
    | succ n ih =>
      intro z hz hz0 hv ls hl
      refine lv_iload_n hx hb dX3_order_2 rfl (lv_at hl 0 rfl) ?_
      refine lv_aload_n hx hb dX3_order_3 rfl (lv_at hl 1 rfl) ?_
      refine va_get (D := D) (ci := 4) (v := .ref (mH ad 3)) (C := RX3) (T := TX3) (N := 19) hx hb hts iwX3 hown hK hP 0 rfl rfl 7 (by decide) (hts (.fieldLink RX3 26 "ObjectRowsModel" "lengths" "[I") (by decide +kernel)) (fun _ h9 => h9) rfl dX3_order_4 ?_
      refine lv_iload_n hx hb dX3_order_7 rfl (lv_at hl 2 rfl) ?_
      refine va_iald hx hb hK hP 4 0 rfl rfl ha dX3_order_8 ?_
      refine lv_topi (fun y1 ey1 => ?_)
      obtain rfl : y1 = mL t a := ey1
      refine lv_icmp_ge (tgt := 43) hx hb dX3_order_9 (by decide) (fun c2 => ?_) (fun c2 => ?_)
      · skip
        refine lv_iload_n hx hb dX3_order_43 rfl (lv_at hl 0 rfl) ?_
        refine lv_aload_n hx hb dX3_order_44 rfl (lv_at hl 1 rfl) ?_
        refine va_get (D := D) (ci := 4) (v := .ref (mH ad 3)) (C := RX3) (T := TX3) (N := 19) hx hb hts iwX3 hown hK hP 0 rfl rfl 7 (by decide) (hts (.fieldLink RX3 26 "ObjectRowsModel" "lengths" "[I") (by decide +kernel)) (fun _ h9 => h9) rfl dX3_order_45 ?_
        refine lv_iload_n hx hb dX3_order_48 rfl (lv_at hl 2 rfl) ?_
        refine va_iald hx hb hK hP 4 0 rfl rfl ha dX3_order_49 ?_
        refine lv_topi (fun y3 ey3 => ?_)
        obtain rfl : y3 = mL t a := ey3
        refine lv_icmp_ge (tgt := 62) hx hb dX3_order_50 (by decide) (fun _ => ?_) (fun c4 => absurd c2 c4)
        refine lv_iconst (v := (-1)) hx hb dX3_order_62 (by decide) ?_
        refine lv_istore (lv' := [(4, .int (-1)), (3, .int z), (0, .ref (mO ad)), (1, .int a), (2, .int b)]) hx hb dX3_order_63 hl (by decide) rfl (fun ls hl => ?_)
        refine lv_iload_n hx hb dX3_order_65 rfl (lv_at hl 1 rfl) ?_
        refine lv_aload_n hx hb dX3_order_66 rfl (lv_at hl 2 rfl) ?_
        refine va_get (D := D) (ci := 4) (v := .ref (mH ad 3)) (C := RX3) (T := TX3) (N := 19) hx hb hts iwX3 hown hK hP 0 rfl rfl 7 (by decide) (hts (.fieldLink RX3 26 "ObjectRowsModel" "lengths" "[I") (by decide +kernel)) (fun _ h9 => h9) rfl dX3_order_67 ?_
        refine lv_iload_n hx hb dX3_order_70 rfl (lv_at hl 4 rfl) ?_
        refine va_iald hx hb hK hP 4 0 rfl rfl hb_ dX3_order_71 ?_
        refine lv_topi (fun y5 ey5 => ?_)
        obtain rfl : y5 = mL t b := ey5
        refine lv_icmp_ge (tgt := 84) hx hb dX3_order_72 (by decide) (fun c6 => ?_) (fun c6 => ?_)
        · skip
          refine lv_iconst (v := (-1)) hx hb dX3_order_84 (by decide) ?_
          refine lv_istore (lv' := [(5, .int (-1)), (4, .int (-1)), (3, .int z), (0, .ref (mO ad)), (1, .int a), (2, .int b)]) hx hb dX3_order_85 hl (by decide) rfl (fun ls hl => ?_)
          refine lv_iload hx hb dX3_order_87 (lv_at hl 1 rfl) ?_
          refine lv_iload hx hb dX3_order_89 (lv_at hl 0 rfl) ?_
          refine lv_icmp_ge (tgt := 98) hx hb dX3_order_91 (by decide) (fun _ => ?_) (fun c7 => absurd (by decide) c7)
          refine lv_iload hx hb dX3_order_98 (lv_at hl 1 rfl) ?_
          refine lv_iload hx hb dX3_order_100 (lv_at hl 0 rfl) ?_
          refine lv_icmp_le (tgt := 109) hx hb dX3_order_102 (by decide) (fun _ => ?_) (fun c8 => absurd (by decide) c8)
          refine lv_iconst (v := 0) hx hb dX3_order_109 (by decide) ?_
          exact reI hx hb hr hlocks dX3_order_110 (by first | (rw [← hv]; simp only [qOrdL, qOfin, qOx, c2, c6, decide_true, decide_false, Bool.not_true, Bool.not_false, Bool.and_true, Bool.true_and, Bool.and_false, Bool.false_and, Bool.or_true, Bool.true_or, Bool.or_false, Bool.false_or, Bool.and_self, Bool.or_self, if_true, if_false, ite_true, ite_false, Bool.false_eq_true, reduceIte, not_true_eq_false, not_false_eq_true, and_true, true_and, and_false, false_and, or_true, true_or, or_false, false_or, and_self, or_self, eq_self, decide_eq_true_eq, Bool.true_eq_false, reduceCtorEq, ne_eq]; done) | (rw [← hv]; simp [qOrdL, qOfin, qOx, c2, c6, Int32.not_lt.mpr c2, Int32.not_lt.mpr c6]; done))
        · skip
          refine lv_aload_n hx hb dX3_order_75 rfl (lv_at hl 2 rfl) ?_
          refine lv_iload_n hx hb dX3_order_76 rfl (lv_at hl 4 rfl) ?_
          refine lv_iload_n hx hb dX3_order_77 rfl (lv_at hl 1 rfl) ?_
          refine rcI (As := [.int b, .int z]) (rest := []) ⟨hx, hb, hml, hown, hts⟩ (c_X3_byteOf l D Y ad t b z hb_ (hbyb z hz0 c6)) (cwV 2 hts gX3_order_X3_byteOf rfl rfl rfl hdX3_byteOf ⟨Nat.le_of_ble_eq_true rfl, Nat.le_of_ble_eq_true rfl⟩) hP hK 0 4 rfl rfl rfl hl.1 rfl (Nat.le_of_ble_eq_true rfl) dX3_order_78 ⟨(Nat.zero_le _), (Nat.zero_le _)⟩ (fun r9 hr9 => ?_)
          obtain rfl : r9 = qByte t b z := hr9
          refine lv_goto (tgt := 85) hx hb dX3_order_81 (by decide) ?_
          refine lv_istore (lv' := [(5, .int (qByte t b z)), (4, .int (-1)), (3, .int z), (0, .ref (mO ad)), (1, .int a), (2, .int b)]) hx hb dX3_order_85 hl (by decide) rfl (fun ls hl => ?_)
          refine lv_iload hx hb dX3_order_87 (lv_at hl 1 rfl) ?_
          refine lv_iload hx hb dX3_order_89 (lv_at hl 0 rfl) ?_
          refine lv_icmp_ge (tgt := 98) hx hb dX3_order_91 (by decide) (fun c10 => ?_) (fun c10 => ?_)
          · skip
            refine lv_iload hx hb dX3_order_98 (lv_at hl 1 rfl) ?_
            refine lv_iload hx hb dX3_order_100 (lv_at hl 0 rfl) ?_
            refine lv_icmp_le (tgt := 109) hx hb dX3_order_102 (by decide) (fun c11 => ?_) (fun c11 => ?_)
            · skip
              refine lv_iconst (v := 0) hx hb dX3_order_109 (by decide) ?_
              exact reI hx hb hr hlocks dX3_order_110 (by first | (rw [← hv]; simp only [qOrdL, qOfin, qOx, c2, c6, c10, c11, decide_true, decide_false, Bool.not_true, Bool.not_false, Bool.and_true, Bool.true_and, Bool.and_false, Bool.false_and, Bool.or_true, Bool.true_or, Bool.or_false, Bool.false_or, Bool.and_self, Bool.or_self, if_true, if_false, ite_true, ite_false, Bool.false_eq_true, reduceIte, not_true_eq_false, not_false_eq_true, and_true, true_and, and_false, false_and, or_true, true_or, or_false, false_or, and_self, or_self, eq_self, decide_eq_true_eq, Bool.true_eq_false, reduceCtorEq, ne_eq]; done) | (rw [← hv]; simp [qOrdL, qOfin, qOx, c2, c6, c10, c11, Int32.not_lt.mpr c2, Int32.not_le.mp c6, Int32.not_lt.mpr c10, Int32.not_lt.mpr c11]; done))
            · skip
              refine lv_iconst (v := 1) hx hb dX3_order_105 (by decide) ?_
              refine lv_goto (tgt := 110) hx hb dX3_order_106 (by decide) ?_
              exact reI hx hb hr hlocks dX3_order_110 (by first | (rw [← hv]; simp only [qOrdL, qOfin, qOx, c2, c6, c10, c11, decide_true, decide_false, Bool.not_true, Bool.not_false, Bool.and_true, Bool.true_and, Bool.and_false, Bool.false_and, Bool.or_true, Bool.true_or, Bool.or_false, Bool.false_or, Bool.and_self, Bool.or_self, if_true, if_false, ite_true, ite_false, Bool.false_eq_true, reduceIte, not_true_eq_false, not_false_eq_true, and_true, true_and, and_false, false_and, or_true, true_or, or_false, false_or, and_self, or_self, eq_self, decide_eq_true_eq, Bool.true_eq_false, reduceCtorEq, ne_eq]; done) | (rw [← hv]; simp [qOrdL, qOfin, qOx, c2, c6, c10, c11, Int32.not_lt.mpr c2, Int32.not_le.mp c6, Int32.not_lt.mpr c10, Int32.not_le.mp c11]; done))
          · skip
            refine lv_iconst (v := (-1)) hx hb dX3_order_94 (by decide) ?_
            refine lv_goto (tgt := 110) hx hb dX3_order_95 (by decide) ?_
            exact reI hx hb hr hlocks dX3_order_110 (by first | (rw [← hv]; simp only [qOrdL, qOfin, qOx, c2, c6, c10, decide_true, decide_false, Bool.not_true, Bool.not_false, Bool.and_true, Bool.true_and, Bool.and_false, Bool.false_and, Bool.or_true, Bool.true_or, Bool.or_false, Bool.false_or, Bool.and_self, Bool.or_self, if_true, if_false, ite_true, ite_false, Bool.false_eq_true, reduceIte, not_true_eq_false, not_false_eq_true, and_true, true_and, and_false, false_and, or_true, true_or, or_false, false_or, and_self, or_self, eq_self, decide_eq_true_eq, Bool.true_eq_false, reduceCtorEq, ne_eq]; done) | (rw [← hv]; simp [qOrdL, qOfin, qOx, c2, c6, c10, Int32.not_lt.mpr c2, Int32.not_le.mp c6, Int32.not_le.mp c10]; done))
      · skip
        refine lv_iload_n hx hb dX3_order_12 rfl (lv_at hl 0 rfl) ?_
        refine lv_aload_n hx hb dX3_order_13 rfl (lv_at hl 1 rfl) ?_
        refine va_get (D := D) (ci := 4) (v := .ref (mH ad 3)) (C := RX3) (T := TX3) (N := 19) hx hb hts iwX3 hown hK hP 0 rfl rfl 7 (by decide) (hts (.fieldLink RX3 26 "ObjectRowsModel" "lengths" "[I") (by decide +kernel)) (fun _ h9 => h9) rfl dX3_order_14 ?_
        refine lv_iload_n hx hb dX3_order_17 rfl (lv_at hl 3 rfl) ?_
        refine va_iald hx hb hK hP 4 0 rfl rfl hb_ dX3_order_18 ?_
        refine lv_topi (fun y12 ey12 => ?_)
        obtain rfl : y12 = mL t b := ey12
        refine lv_icmp_ge (tgt := 43) hx hb dX3_order_19 (by decide) (fun c13 => ?_) (fun c13 => ?_)
        · skip
          refine lv_iload_n hx hb dX3_order_43 rfl (lv_at hl 0 rfl) ?_
          refine lv_aload_n hx hb dX3_order_44 rfl (lv_at hl 1 rfl) ?_
          refine va_get (D := D) (ci := 4) (v := .ref (mH ad 3)) (C := RX3) (T := TX3) (N := 19) hx hb hts iwX3 hown hK hP 0 rfl rfl 7 (by decide) (hts (.fieldLink RX3 26 "ObjectRowsModel" "lengths" "[I") (by decide +kernel)) (fun _ h9 => h9) rfl dX3_order_45 ?_
          refine lv_iload_n hx hb dX3_order_48 rfl (lv_at hl 2 rfl) ?_
          refine va_iald hx hb hK hP 4 0 rfl rfl ha dX3_order_49 ?_
          refine lv_topi (fun y14 ey14 => ?_)
          obtain rfl : y14 = mL t a := ey14
          refine lv_icmp_ge (tgt := 62) hx hb dX3_order_50 (by decide) (fun c15 => absurd c15 c2) (fun _ => ?_)
          refine lv_aload_n hx hb dX3_order_53 rfl (lv_at hl 1 rfl) ?_
          refine lv_iload_n hx hb dX3_order_54 rfl (lv_at hl 2 rfl) ?_
          refine lv_iload_n hx hb dX3_order_55 rfl (lv_at hl 0 rfl) ?_
          refine rcI (As := [.int a, .int z]) (rest := []) ⟨hx, hb, hml, hown, hts⟩ (c_X3_byteOf l D Y ad t a z ha (hbya z hz0 c2)) (cwV 2 hts gX3_order_X3_byteOf rfl rfl rfl hdX3_byteOf ⟨Nat.le_of_ble_eq_true rfl, Nat.le_of_ble_eq_true rfl⟩) hP hK 0 4 rfl rfl rfl hl.1 rfl (Nat.le_of_ble_eq_true rfl) dX3_order_56 ⟨(Nat.zero_le _), (Nat.zero_le _)⟩ (fun r16 hr16 => ?_)
          obtain rfl : r16 = qByte t a z := hr16
          refine lv_goto (tgt := 63) hx hb dX3_order_59 (by decide) ?_
          refine lv_istore (lv' := [(4, .int (qByte t a z)), (3, .int z), (0, .ref (mO ad)), (1, .int a), (2, .int b)]) hx hb dX3_order_63 hl (by decide) rfl (fun ls hl => ?_)
          refine lv_iload_n hx hb dX3_order_65 rfl (lv_at hl 1 rfl) ?_
          refine lv_aload_n hx hb dX3_order_66 rfl (lv_at hl 2 rfl) ?_
          refine va_get (D := D) (ci := 4) (v := .ref (mH ad 3)) (C := RX3) (T := TX3) (N := 19) hx hb hts iwX3 hown hK hP 0 rfl rfl 7 (by decide) (hts (.fieldLink RX3 26 "ObjectRowsModel" "lengths" "[I") (by decide +kernel)) (fun _ h9 => h9) rfl dX3_order_67 ?_
          refine lv_iload_n hx hb dX3_order_70 rfl (lv_at hl 4 rfl) ?_
          refine va_iald hx hb hK hP 4 0 rfl rfl hb_ dX3_order_71 ?_
          refine lv_topi (fun y17 ey17 => ?_)
          obtain rfl : y17 = mL t b := ey17
          refine lv_icmp_ge (tgt := 84) hx hb dX3_order_72 (by decide) (fun _ => ?_) (fun c18 => absurd c13 c18)
          refine lv_iconst (v := (-1)) hx hb dX3_order_84 (by decide) ?_
          refine lv_istore (lv' := [(5, .int (-1)), (4, .int (qByte t a z)), (3, .int z), (0, .ref (mO ad)), (1, .int a), (2, .int b)]) hx hb dX3_order_85 hl (by decide) rfl (fun ls hl => ?_)
          refine lv_iload hx hb dX3_order_87 (lv_at hl 1 rfl) ?_
          refine lv_iload hx hb dX3_order_89 (lv_at hl 0 rfl) ?_
          refine lv_icmp_ge (tgt := 98) hx hb dX3_order_91 (by decide) (fun c19 => ?_) (fun c19 => ?_)
          · skip
            refine lv_iload hx hb dX3_order_98 (lv_at hl 1 rfl) ?_
            refine lv_iload hx hb dX3_order_100 (lv_at hl 0 rfl) ?_
            refine lv_icmp_le (tgt := 109) hx hb dX3_order_102 (by decide) (fun c20 => ?_) (fun c20 => ?_)
            · skip
              refine lv_iconst (v := 0) hx hb dX3_order_109 (by decide) ?_
              exact reI hx hb hr hlocks dX3_order_110 (by first | (rw [← hv]; simp only [qOrdL, qOfin, qOx, c2, c13, c19, c20, decide_true, decide_false, Bool.not_true, Bool.not_false, Bool.and_true, Bool.true_and, Bool.and_false, Bool.false_and, Bool.or_true, Bool.true_or, Bool.or_false, Bool.false_or, Bool.and_self, Bool.or_self, if_true, if_false, ite_true, ite_false, Bool.false_eq_true, reduceIte, not_true_eq_false, not_false_eq_true, and_true, true_and, and_false, false_and, or_true, true_or, or_false, false_or, and_self, or_self, eq_self, decide_eq_true_eq, Bool.true_eq_false, reduceCtorEq, ne_eq]; done) | (rw [← hv]; simp [qOrdL, qOfin, qOx, c2, c13, c19, c20, Int32.not_le.mp c2, Int32.not_lt.mpr c13, Int32.not_lt.mpr c19, Int32.not_lt.mpr c20]; done))
            · skip
              refine lv_iconst (v := 1) hx hb dX3_order_105 (by decide) ?_
              refine lv_goto (tgt := 110) hx hb dX3_order_106 (by decide) ?_
              exact reI hx hb hr hlocks dX3_order_110 (by first | (rw [← hv]; simp only [qOrdL, qOfin, qOx, c2, c13, c19, c20, decide_true, decide_false, Bool.not_true, Bool.not_false, Bool.and_true, Bool.true_and, Bool.and_false, Bool.false_and, Bool.or_true, Bool.true_or, Bool.or_false, Bool.false_or, Bool.and_self, Bool.or_self, if_true, if_false, ite_true, ite_false, Bool.false_eq_true, reduceIte, not_true_eq_false, not_false_eq_true, and_true, true_and, and_false, false_and, or_true, true_or, or_false, false_or, and_self, or_self, eq_self, decide_eq_true_eq, Bool.true_eq_false, reduceCtorEq, ne_eq]; done) | (rw [← hv]; simp [qOrdL, qOfin, qOx, c2, c13, c19, c20, Int32.not_le.mp c2, Int32.not_lt.mpr c13, Int32.not_lt.mpr c19, Int32.not_le.mp c20]; done))
          · skip
            refine lv_iconst (v := (-1)) hx hb dX3_order_94 (by decide) ?_
            refine lv_goto (tgt := 110) hx hb dX3_order_95 (by decide) ?_
            exact reI hx hb hr hlocks dX3_order_110 (by first | (rw [← hv]; simp only [qOrdL, qOfin, qOx, c2, c13, c19, decide_true, decide_false, Bool.not_true, Bool.not_false, Bool.and_true, Bool.true_and, Bool.and_false, Bool.false_and, Bool.or_true, Bool.true_or, Bool.or_false, Bool.false_or, Bool.and_self, Bool.or_self, if_true, if_false, ite_true, ite_false, Bool.false_eq_true, reduceIte, not_true_eq_false, not_false_eq_true, and_true, true_and, and_false, false_and, or_true, true_or, or_false, false_or, and_self, or_self, eq_self, decide_eq_true_eq, Bool.true_eq_false, reduceCtorEq, ne_eq]; done) | (rw [← hv]; simp [qOrdL, qOfin, qOx, c2, c13, c19, Int32.not_le.mp c2, Int32.not_lt.mpr c13, Int32.not_le.mp c19]; done))
        · skip
          refine lv_aload_n hx hb dX3_order_22 rfl (lv_at hl 1 rfl) ?_
          refine lv_iload_n hx hb dX3_order_23 rfl (lv_at hl 2 rfl) ?_
          refine lv_iload_n hx hb dX3_order_24 rfl (lv_at hl 0 rfl) ?_
          refine rcI (As := [.int a, .int z]) (rest := []) ⟨hx, hb, hml, hown, hts⟩ (c_X3_byteOf l D Y ad t a z ha (hbya z hz0 c2)) (cwV 2 hts gX3_order_X3_byteOf rfl rfl rfl hdX3_byteOf ⟨Nat.le_of_ble_eq_true rfl, Nat.le_of_ble_eq_true rfl⟩) hP hK 0 4 rfl rfl rfl hl.1 rfl (Nat.le_of_ble_eq_true rfl) dX3_order_25 ⟨(Nat.zero_le _), (Nat.zero_le _)⟩ (fun r21 hr21 => ?_)
          obtain rfl : r21 = qByte t a z := hr21
          refine lv_aload_n hx hb dX3_order_28 rfl (lv_at hl 1 rfl) ?_
          refine lv_iload_n hx hb dX3_order_29 rfl (lv_at hl 3 rfl) ?_
          refine lv_iload_n hx hb dX3_order_30 rfl (lv_at hl 0 rfl) ?_
          refine rcI (As := [.int b, .int z]) (rest := [.int (qByte t a z)]) ⟨hx, hb, hml, hown, hts⟩ (c_X3_byteOf l D Y ad t b z hb_ (hbyb z hz0 c13)) (cwV 2 hts gX3_order_X3_byteOf rfl rfl rfl hdX3_byteOf ⟨Nat.le_of_ble_eq_true rfl, Nat.le_of_ble_eq_true rfl⟩) hP hK 0 4 rfl rfl rfl hl.1 rfl (Nat.le_of_ble_eq_true rfl) dX3_order_31 ⟨(Nat.zero_le _), (Nat.zero_le _)⟩ (fun r22 hr22 => ?_)
          obtain rfl : r22 = qByte t b z := hr22
          refine lv_icmp_ne (tgt := 43) hx hb dX3_order_34 (by decide) (fun c23 => ?_) (fun c23 => ?_)
          · skip
            refine lv_iload_n hx hb dX3_order_43 rfl (lv_at hl 0 rfl) ?_
            refine lv_aload_n hx hb dX3_order_44 rfl (lv_at hl 1 rfl) ?_
            refine va_get (D := D) (ci := 4) (v := .ref (mH ad 3)) (C := RX3) (T := TX3) (N := 19) hx hb hts iwX3 hown hK hP 0 rfl rfl 7 (by decide) (hts (.fieldLink RX3 26 "ObjectRowsModel" "lengths" "[I") (by decide +kernel)) (fun _ h9 => h9) rfl dX3_order_45 ?_
            refine lv_iload_n hx hb dX3_order_48 rfl (lv_at hl 2 rfl) ?_
            refine va_iald hx hb hK hP 4 0 rfl rfl ha dX3_order_49 ?_
            refine lv_topi (fun y24 ey24 => ?_)
            obtain rfl : y24 = mL t a := ey24
            refine lv_icmp_ge (tgt := 62) hx hb dX3_order_50 (by decide) (fun c25 => absurd c25 c2) (fun _ => ?_)
            refine lv_aload_n hx hb dX3_order_53 rfl (lv_at hl 1 rfl) ?_
            refine lv_iload_n hx hb dX3_order_54 rfl (lv_at hl 2 rfl) ?_
            refine lv_iload_n hx hb dX3_order_55 rfl (lv_at hl 0 rfl) ?_
            refine rcI (As := [.int a, .int z]) (rest := []) ⟨hx, hb, hml, hown, hts⟩ (c_X3_byteOf l D Y ad t a z ha (hbya z hz0 c2)) (cwV 2 hts gX3_order_X3_byteOf rfl rfl rfl hdX3_byteOf ⟨Nat.le_of_ble_eq_true rfl, Nat.le_of_ble_eq_true rfl⟩) hP hK 0 4 rfl rfl rfl hl.1 rfl (Nat.le_of_ble_eq_true rfl) dX3_order_56 ⟨(Nat.zero_le _), (Nat.zero_le _)⟩ (fun r26 hr26 => ?_)
            obtain rfl : r26 = qByte t a z := hr26
            refine lv_goto (tgt := 63) hx hb dX3_order_59 (by decide) ?_
            refine lv_istore (lv' := [(4, .int (qByte t a z)), (3, .int z), (0, .ref (mO ad)), (1, .int a), (2, .int b)]) hx hb dX3_order_63 hl (by decide) rfl (fun ls hl => ?_)
            refine lv_iload_n hx hb dX3_order_65 rfl (lv_at hl 1 rfl) ?_
            refine lv_aload_n hx hb dX3_order_66 rfl (lv_at hl 2 rfl) ?_
            refine va_get (D := D) (ci := 4) (v := .ref (mH ad 3)) (C := RX3) (T := TX3) (N := 19) hx hb hts iwX3 hown hK hP 0 rfl rfl 7 (by decide) (hts (.fieldLink RX3 26 "ObjectRowsModel" "lengths" "[I") (by decide +kernel)) (fun _ h9 => h9) rfl dX3_order_67 ?_
            refine lv_iload_n hx hb dX3_order_70 rfl (lv_at hl 4 rfl) ?_
            refine va_iald hx hb hK hP 4 0 rfl rfl hb_ dX3_order_71 ?_
            refine lv_topi (fun y27 ey27 => ?_)
            obtain rfl : y27 = mL t b := ey27
            refine lv_icmp_ge (tgt := 84) hx hb dX3_order_72 (by decide) (fun c28 => absurd c28 c13) (fun _ => ?_)
            refine lv_aload_n hx hb dX3_order_75 rfl (lv_at hl 2 rfl) ?_
            refine lv_iload_n hx hb dX3_order_76 rfl (lv_at hl 4 rfl) ?_
            refine lv_iload_n hx hb dX3_order_77 rfl (lv_at hl 1 rfl) ?_
            refine rcI (As := [.int b, .int z]) (rest := []) ⟨hx, hb, hml, hown, hts⟩ (c_X3_byteOf l D Y ad t b z hb_ (hbyb z hz0 c13)) (cwV 2 hts gX3_order_X3_byteOf rfl rfl rfl hdX3_byteOf ⟨Nat.le_of_ble_eq_true rfl, Nat.le_of_ble_eq_true rfl⟩) hP hK 0 4 rfl rfl rfl hl.1 rfl (Nat.le_of_ble_eq_true rfl) dX3_order_78 ⟨(Nat.zero_le _), (Nat.zero_le _)⟩ (fun r29 hr29 => ?_)
            obtain rfl : r29 = qByte t b z := hr29
            refine lv_goto (tgt := 85) hx hb dX3_order_81 (by decide) ?_
            refine lv_istore (lv' := [(5, .int (qByte t b z)), (4, .int (qByte t a z)), (3, .int z), (0, .ref (mO ad)), (1, .int a), (2, .int b)]) hx hb dX3_order_85 hl (by decide) rfl (fun ls hl => ?_)
            refine lv_iload hx hb dX3_order_87 (lv_at hl 1 rfl) ?_
            refine lv_iload hx hb dX3_order_89 (lv_at hl 0 rfl) ?_
            refine lv_icmp_ge (tgt := 98) hx hb dX3_order_91 (by decide) (fun c30 => ?_) (fun c30 => ?_)
            · skip
              refine lv_iload hx hb dX3_order_98 (lv_at hl 1 rfl) ?_
              refine lv_iload hx hb dX3_order_100 (lv_at hl 0 rfl) ?_
              refine lv_icmp_le (tgt := 109) hx hb dX3_order_102 (by decide) (fun c31 => ?_) (fun c31 => ?_)
              · skip
                refine lv_iconst (v := 0) hx hb dX3_order_109 (by decide) ?_
                exact reI hx hb hr hlocks dX3_order_110 (by first | (rw [← hv]; simp only [qOrdL, qOfin, qOx, c2, c13, c23, c30, c31, decide_true, decide_false, Bool.not_true, Bool.not_false, Bool.and_true, Bool.true_and, Bool.and_false, Bool.false_and, Bool.or_true, Bool.true_or, Bool.or_false, Bool.false_or, Bool.and_self, Bool.or_self, if_true, if_false, ite_true, ite_false, Bool.false_eq_true, reduceIte, not_true_eq_false, not_false_eq_true, and_true, true_and, and_false, false_and, or_true, true_or, or_false, false_or, and_self, or_self, eq_self, decide_eq_true_eq, Bool.true_eq_false, reduceCtorEq, ne_eq]; done) | (rw [← hv]; simp [qOrdL, qOfin, qOx, c2, c13, c23, c30, c31, Int32.not_le.mp c2, Int32.not_le.mp c13, Int32.not_lt.mpr c30, Int32.not_lt.mpr c31]; done))
              · skip
                refine lv_iconst (v := 1) hx hb dX3_order_105 (by decide) ?_
                refine lv_goto (tgt := 110) hx hb dX3_order_106 (by decide) ?_
                exact reI hx hb hr hlocks dX3_order_110 (by first | (rw [← hv]; simp only [qOrdL, qOfin, qOx, c2, c13, c23, c30, c31, decide_true, decide_false, Bool.not_true, Bool.not_false, Bool.and_true, Bool.true_and, Bool.and_false, Bool.false_and, Bool.or_true, Bool.true_or, Bool.or_false, Bool.false_or, Bool.and_self, Bool.or_self, if_true, if_false, ite_true, ite_false, Bool.false_eq_true, reduceIte, not_true_eq_false, not_false_eq_true, and_true, true_and, and_false, false_and, or_true, true_or, or_false, false_or, and_self, or_self, eq_self, decide_eq_true_eq, Bool.true_eq_false, reduceCtorEq, ne_eq]; done) | (rw [← hv]; simp [qOrdL, qOfin, qOx, c2, c13, c23, c30, c31, Int32.not_le.mp c2, Int32.not_le.mp c13, Int32.not_lt.mpr c30, Int32.not_le.mp c31]; done))
            · skip
              refine lv_iconst (v := (-1)) hx hb dX3_order_94 (by decide) ?_
              refine lv_goto (tgt := 110) hx hb dX3_order_95 (by decide) ?_
              exact reI hx hb hr hlocks dX3_order_110 (by first | (rw [← hv]; simp only [qOrdL, qOfin, qOx, c2, c13, c23, c30, decide_true, decide_false, Bool.not_true, Bool.not_false, Bool.and_true, Bool.true_and, Bool.and_false, Bool.false_and, Bool.or_true, Bool.true_or, Bool.or_false, Bool.false_or, Bool.and_self, Bool.or_self, if_true, if_false, ite_true, ite_false, Bool.false_eq_true, reduceIte, not_true_eq_false, not_false_eq_true, and_true, true_and, and_false, false_and, or_true, true_or, or_false, false_or, and_self, or_self, eq_self, decide_eq_true_eq, Bool.true_eq_false, reduceCtorEq, ne_eq]; done) | (rw [← hv]; simp [qOrdL, qOfin, qOx, c2, c13, c23, c30, Int32.not_le.mp c2, Int32.not_le.mp c13, Int32.not_le.mp c30]; done))
          · skip
            obtain ⟨z32, ez32⟩ : ∃ y : Int32, y = z + 1 := ⟨_, rfl⟩
            refine lv_iinc (v := z32) (lv' := [(3, .int z32), (0, .ref (mO ad)), (1, .int a), (2, .int b)]) hx hb dX3_order_37 hl (k := 0) rfl (by rw [ez32]; rfl) (by decide) rfl (fun ls hl => ?_)
            refine lv_goto (tgt := 2) hx hb dX3_order_40 (by decide) ?_
            exact ih z32 (mstep c2 hz ez32) (nnstep c2 hz0 ez32) (by first | (rw [← hv]; simp only [qOrdL, qOfin, qOx, c2, c13, eq_true c23, ez32, decide_true, decide_false, Bool.not_true, Bool.not_false, Bool.and_true, Bool.true_and, Bool.and_false, Bool.false_and, Bool.or_true, Bool.true_or, Bool.or_false, Bool.false_or, Bool.and_self, Bool.or_self, if_true, if_false, ite_true, ite_false, Bool.false_eq_true, reduceIte, not_true_eq_false, not_false_eq_true, and_true, true_and, and_false, false_and, or_true, true_or, or_false, false_or, and_self, or_self, eq_self, decide_eq_true_eq, Bool.true_eq_false, reduceCtorEq, ne_eq]; done) | (rw [← hv]; simp [qOrdL, qOfin, qOx, c2, c13, eq_true c23, ez32, Int32.not_le.mp c2, Int32.not_le.mp c13]; done)) ls (lv_sub hl [0, 1, 2, 3] rfl)
  exact LP ((mL t a).toInt.toNat + 1) 0 (by rw [show ((0 : Int32)).toInt = 0 from rfl]; omega) (by decide) (by rfl) ls (lv_sub hl [0, 1, 2, 3] rfl)
theorem hdX3_order : yX3_order.cls = RX3 ∧ yX3_order.cls ≠ "java/lang/invoke/MethodHandle" ∧ yX3_order.cls ≠ "java/lang/invoke/VarHandle" ∧ (parseMethodDescriptor yX3_order.desc).map (fun d => d.parameters.length) = some 2 := by decide +kernel
set_option maxHeartbeats 4000000 in
set_option maxRecDepth 100000 in
theorem c_X3_placeOf (l : Launch) (D : va_G) (Y : Nat → ClassId) (ad : MA) (t : MS) (d : Int32) (key : Int64) (hd : vp_in d 400) (hk : ∀ k : Int32, ¬ k < 0 → ¬ mEn t d ≤ k → vp_in (32 * d + k) 12800) : Met l yX3_placeOf wsX3_placeOf ({ frames := 0, cells := 0, slots := 0, locals := 0 }) (rdPc D Y [.ref (mO ad), .int d, .long key] (mW Y ad t)) (vp_Si (fun ans => ans = qPlace t d key)) 0 0 (fun _ => False) := by
  refine rdOf (cc := cX3_placeOf) (maxL := 5) (ret := (some .int)) (own := RX3) (by decide) rfl rfl (Nat.le_of_ble_eq_true rfl) ?_
  intro p e s m below meth c ls hx hb hr hts hown hml hlocks hP hK hl
  have iwX3 : ∀ w ∈ u_ws RX3 TX3 19, w ∈ wsX3_placeOf := fun _ h => List.mem_cons_of_mem _ (List.mem_append_right _ h)
  have hl : lv_has ls 5 [(0, .ref (mO ad)), (1, .int d), (2, .long key)] := hl
  refine lv_iconst (v := 0) hx hb dX3_placeOf_0 (by decide) ?_
  refine lv_istore (lv' := [(4, .int 0), (0, .ref (mO ad)), (1, .int d), (2, .long key)]) hx hb dX3_placeOf_1 hl (by decide) rfl (fun ls hl => ?_)
  have LP : ∀ (n : Nat) (z : Int32), ((mEn t d).toInt - z.toInt).toNat < n → ¬ z < 0 → qPlaceL t d key n z = qPlace t d key → ∀ ls : Array Slot, lv_has ls 5 [(4, .int z), (0, .ref (mO ad)), (1, .int d), (2, .long key)] → W p l e ({ frames := 0, cells := 0, slots := 0, locals := 0 }) s m ([.ref (mO ad), .int d, .long key] : List Value).toArray below meth c s.heap [] 0 0 (MQ below (vp_Si (fun ans => ans = qPlace t d key)) ([.ref (mO ad), .int d, .long key] : List Value).toArray s 0 0 (fun _ => False)) (F0 m 3 ls []) := by
    intro n
    induction n with
    | zero => intro z h9; exact absurd h9 (Nat.not_lt_zero _)
    | succ n ih =>
      intro z hz hz0 hv ls hl
      refine lv_iload hx hb dX3_placeOf_3 (lv_at hl 0 rfl) ?_
      refine lv_aload_n hx hb dX3_placeOf_5 rfl (lv_at hl 1 rfl) ?_
      refine va_get (D := D) (ci := 4) (v := .ref (mH ad 10)) (C := RX3) (T := TX3) (N := 19) hx hb hts iwX3 hown hK hP 0 rfl rfl 14 (by decide) (hts (.fieldLink RX3 49 "ObjectRowsModel" "entries" "[I") (by decide +kernel)) (fun _ h9 => h9) rfl dX3_placeOf_6 ?_
      refine lv_iload_n hx hb dX3_placeOf_9 rfl (lv_at hl 2 rfl) ?_
      refine va_iald hx hb hK hP 11 0 rfl rfl hd dX3_placeOf_10 ?_
      refine lv_topi (fun y1 ey1 => ?_)
      obtain rfl : y1 = mEn t d := ey1
      refine lv_icmp_ge (tgt := 45) hx hb dX3_placeOf_11 (by decide) (fun c2 => ?_) (fun c2 => ?_)
      · skip
        refine lv_iconst (v := (-1)) hx hb dX3_placeOf_45 (by decide) ?_
        exact reI hx hb hr hlocks dX3_placeOf_46 (by first | (rw [← hv]; simp only [qPlaceL, c2, decide_true, decide_false, Bool.not_true, Bool.not_false, Bool.and_true, Bool.true_and, Bool.and_false, Bool.false_and, Bool.or_true, Bool.true_or, Bool.or_false, Bool.false_or, Bool.and_self, Bool.or_self, if_true, if_false, ite_true, ite_false, Bool.false_eq_true, reduceIte, not_true_eq_false, not_false_eq_true, and_true, true_and, and_false, false_and, or_true, true_or, or_false, false_or, and_self, or_self, eq_self, decide_eq_true_eq, Bool.true_eq_false, reduceCtorEq, ne_eq]; done) | (rw [← hv]; simp [qPlaceL, c2, Int32.not_lt.mpr c2]; done))
      · skip
        refine lv_aload_n hx hb dX3_placeOf_14 rfl (lv_at hl 1 rfl) ?_
        refine va_get (D := D) (ci := 4) (v := .ref (mH ad 11)) (C := RX3) (T := TX3) (N := 19) hx hb hts iwX3 hown hK hP 0 rfl rfl 15 (by decide) (hts (.fieldLink RX3 52 "ObjectRowsModel" "keys" "[J") (by decide +kernel)) (fun _ h9 => h9) rfl dX3_placeOf_15 ?_
        refine lv_bipush (v := 32) hx hb dX3_placeOf_18 (by decide) ?_
        refine lv_iload_n hx hb dX3_placeOf_20 rfl (lv_at hl 2 rfl) ?_
        refine lv_imul hx hb dX3_placeOf_21 ?_
        refine lv_iload hx hb dX3_placeOf_22 (lv_at hl 0 rfl) ?_
        refine lv_iadd hx hb dX3_placeOf_24 ?_
        refine va_lald hx hb hK hP 12 3 rfl rfl (hk z hz0 c2) dX3_placeOf_25 ?_
        refine lv_topl (fun y3 ey3 => ?_)
        obtain rfl : y3 = mKe t ((32 * d) + z) := ey3
        refine lv_lload_n hx hb dX3_placeOf_26 rfl (lv_at hl 3 rfl) ?_
        refine W.lcmp hx hb dX3_placeOf_27 ?_
        refine lv_if_ne (tgt := 39) hx hb dX3_placeOf_28 (by decide) (fun c4 => ?_) (fun c4 => ?_)
        · skip
          replace c4 := lgc_ne c4
          obtain ⟨z5, ez5⟩ : ∃ y : Int32, y = z + 1 := ⟨_, rfl⟩
          refine lv_iinc (v := z5) (lv' := [(4, .int z5), (0, .ref (mO ad)), (1, .int d), (2, .long key)]) hx hb dX3_placeOf_39 hl (k := 0) rfl (by rw [ez5]; rfl) (by decide) rfl (fun ls hl => ?_)
          refine lv_goto (tgt := 3) hx hb dX3_placeOf_42 (by decide) ?_
          exact ih z5 (mstep c2 hz ez5) (nnstep c2 hz0 ez5) (by first | (rw [← hv]; simp only [qPlaceL, c2, c4, ez5, decide_true, decide_false, Bool.not_true, Bool.not_false, Bool.and_true, Bool.true_and, Bool.and_false, Bool.false_and, Bool.or_true, Bool.true_or, Bool.or_false, Bool.false_or, Bool.and_self, Bool.or_self, if_true, if_false, ite_true, ite_false, Bool.false_eq_true, reduceIte, not_true_eq_false, not_false_eq_true, and_true, true_and, and_false, false_and, or_true, true_or, or_false, false_or, and_self, or_self, eq_self, decide_eq_true_eq, Bool.true_eq_false, reduceCtorEq, ne_eq]; done) | (rw [← hv]; simp [qPlaceL, c2, c4, ez5, Int32.not_le.mp c2]; done)) ls (lv_sub hl [0, 1, 2, 3] rfl)
        · skip
          replace c4 := lgc_eq c4
          refine lv_bipush (v := 32) hx hb dX3_placeOf_31 (by decide) ?_
          refine lv_iload_n hx hb dX3_placeOf_33 rfl (lv_at hl 2 rfl) ?_
          refine lv_imul hx hb dX3_placeOf_34 ?_
          refine lv_iload hx hb dX3_placeOf_35 (lv_at hl 0 rfl) ?_
          refine lv_iadd hx hb dX3_placeOf_37 ?_
          exact reI hx hb hr hlocks dX3_placeOf_38 (by first | (rw [← hv]; simp only [qPlaceL, c2, eq_true c4, decide_true, decide_false, Bool.not_true, Bool.not_false, Bool.and_true, Bool.true_and, Bool.and_false, Bool.false_and, Bool.or_true, Bool.true_or, Bool.or_false, Bool.false_or, Bool.and_self, Bool.or_self, if_true, if_false, ite_true, ite_false, Bool.false_eq_true, reduceIte, not_true_eq_false, not_false_eq_true, and_true, true_and, and_false, false_and, or_true, true_or, or_false, false_or, and_self, or_self, eq_self, decide_eq_true_eq, Bool.true_eq_false, reduceCtorEq, ne_eq]; done) | (rw [← hv]; simp [qPlaceL, c2, eq_true c4, Int32.not_le.mp c2]; done))
  exact LP ((mEn t d).toInt.toNat + 1) 0 (by rw [show ((0 : Int32)).toInt = 0 from rfl]; omega) (by decide) (by rfl) ls (lv_sub hl [0, 1, 2, 3] rfl)
theorem hdX3_placeOf : yX3_placeOf.cls = RX3 ∧ yX3_placeOf.cls ≠ "java/lang/invoke/MethodHandle" ∧ yX3_placeOf.cls ≠ "java/lang/invoke/VarHandle" ∧ (parseMethodDescriptor yX3_placeOf.desc).map (fun d => d.parameters.length) = some 2 := by decide +kernel
