set_option maxHeartbeats 4000000 in
set_option maxRecDepth 100000 in
theorem c_X3_kind (l : Launch) (D : va_G) (Y : Nat → ClassId) (ad : MA) (t : MS) (sz : Nat) (o : Int32) (hv : ∀ o, qObj t o = true → mV t o) : Met l yX3_kind wsX3_kind ({ frames := 1, cells := 0, slots := 0, locals := 21 }) (wrPc D Y [.ref (mO ad), .int o] (mW Y ad t) sz) (va_Qi (fun (ans : Int32) (u : MS) => ans = fKind t o ∧ u = mSetThr t 0) (wrB D (va_A (mW Y ad t) sz) (fun u : MS => mW Y ad u)) (va_A (mW Y ad t) sz)) (0) (0) (va_A (mW Y ad t) sz) := by
  refine wrOf (Qc := fun A => va_Qi (fun (ans : Int32) (u : MS) => ans = fKind t o ∧ u = mSetThr t 0) (wrB D A (fun u : MS => mW Y ad u)) A) (cc := cX3_kind) (maxL := 2) (ret := (some .int)) (own := RX3) (by decide) rfl rfl (Nat.le_of_ble_eq_true rfl) ?_
  intro p e s m below meth c ls A hx hb hr hts hown hml hlocks hin hA hP hD hS hK hl
  have iwX3 : ∀ w ∈ u_ws RX3 TX3 19, w ∈ wsX3_kind := fun _ h => List.mem_cons_of_mem _ (List.mem_append_right _ h)
  have hl : lv_has ls 2 [(0, .ref (mO ad)), (1, .int o)] := hl
  have hS : va_S A s.heap s.heap [] := hS
  refine lv_aload_n hx hb dX3_kind_0 rfl (lv_at hl 0 rfl) ?_
  refine lv_iconst (v := 0) hx hb dX3_kind_1 (by decide) ?_
  refine mFput0 (ad := ad) hx hb hts iwX3 hown hK hP hD hS (hts (.fieldLink RX3 65 "ObjectRowsModel" "thrown" "I") (by decide +kernel)) dX3_kind_2 (fun H locs hP hD hS => ?_)
  refine lv_aload_n hx hb dX3_kind_5 rfl (lv_at hl 0 rfl) ?_
  refine lv_iload_n hx hb dX3_kind_6 rfl (lv_at hl 1 rfl) ?_
  refine rcI (As := [.int o]) (rest := []) ⟨hx, hb, hml, hown, hts⟩ (c_X3_isObject l D Y ad (mSetThr t 0) o ) (cwV 1 hts gX3_kind_X3_isObject rfl rfl rfl hdX3_isObject ⟨Nat.le_of_ble_eq_true rfl, Nat.le_of_ble_eq_true rfl⟩) hP hK 0 4 rfl rfl rfl hl.1 rfl (Nat.le_of_ble_eq_true rfl) dX3_kind_7 ⟨(Nat.zero_le _), (Nat.zero_le _)⟩ (fun r1 hr1 => ?_)
  replace hr1 : r1 = bI (qObj t o) := hr1
  cases b2 : qObj t o
  · replace hr1 : r1 = 0 := by rw [hr1, b2]; rfl
    subst hr1
    refine lv_if_eq (tgt := 22) hx hb dX3_kind_10 (by decide) (fun _ => ?_) (fun c3 => absurd (by decide) c3)
    refine lv_iconst (v := (-1)) hx hb dX3_kind_22 (by decide) ?_
    refine W.widen (k := 0) (n := 0) (by omega) (by omega) ?_
    exact weI (wf := fun u : MS => mW Y ad u) (mSetThr t 0) hx hb hr hlocks hP hD hS dX3_kind_23 (⟨by first | (simp only [fKind, b2, decide_true, decide_false, Bool.not_true, Bool.not_false, Bool.and_true, Bool.true_and, Bool.and_false, Bool.false_and, Bool.or_true, Bool.true_or, Bool.or_false, Bool.false_or, Bool.and_self, Bool.or_self, if_true, if_false, ite_true, ite_false, Bool.false_eq_true, reduceIte, not_true_eq_false, not_false_eq_true, and_true, true_and, and_false, false_and, or_true, true_or, or_false, false_or, and_self, or_self, eq_self, decide_eq_true_eq, Bool.true_eq_false, reduceCtorEq, ne_eq]; done) | (simp [fKind, b2]; done), by rfl⟩)
  · replace hr1 : r1 = 1 := by rw [hr1, b2]; rfl
    subst hr1
    refine lv_if_eq (tgt := 22) hx hb dX3_kind_10 (by decide) (fun c4 => absurd c4 (by decide)) (fun _ => ?_)
    refine lv_aload_n hx hb dX3_kind_13 rfl (lv_at hl 0 rfl) ?_
    refine va_get (D := D) (ci := 4) (v := .ref (mH ad 0)) (C := RX3) (T := TX3) (N := 19) hx hb hts iwX3 hown hK hP 0 rfl rfl 4 (by decide) (hts (.fieldLink RX3 16 "ObjectRowsModel" "kinds" "[I") (by decide +kernel)) (fun _ h9 => h9) rfl dX3_kind_14 ?_
    refine lv_iload_n hx hb dX3_kind_17 rfl (lv_at hl 1 rfl) ?_
    refine va_iald hx hb hK hP 1 0 rfl rfl (hv o b2).1 dX3_kind_18 ?_
    refine lv_topi (fun y5 ey5 => ?_)
    obtain rfl : y5 = mK t o := ey5
    refine lv_goto (tgt := 23) hx hb dX3_kind_19 (by decide) ?_
    refine W.widen (k := 0) (n := 0) (by omega) (by omega) ?_
    exact weI (wf := fun u : MS => mW Y ad u) (mSetThr t 0) hx hb hr hlocks hP hD hS dX3_kind_23 (⟨by first | (simp only [fKind, b2, decide_true, decide_false, Bool.not_true, Bool.not_false, Bool.and_true, Bool.true_and, Bool.and_false, Bool.false_and, Bool.or_true, Bool.true_or, Bool.or_false, Bool.false_or, Bool.and_self, Bool.or_self, if_true, if_false, ite_true, ite_false, Bool.false_eq_true, reduceIte, not_true_eq_false, not_false_eq_true, and_true, true_and, and_false, false_and, or_true, true_or, or_false, false_or, and_self, or_self, eq_self, decide_eq_true_eq, Bool.true_eq_false, reduceCtorEq, ne_eq]; done) | (simp [fKind, b2]; done), by rfl⟩)
theorem hdX3_kind : yX3_kind.cls = RX3 ∧ yX3_kind.cls ≠ "java/lang/invoke/MethodHandle" ∧ yX3_kind.cls ≠ "java/lang/invoke/VarHandle" ∧ (parseMethodDescriptor yX3_kind.desc).map (fun d => d.parameters.length) = some 1 := by decide +kernel
set_option maxHeartbeats 4000000 in
set_option maxRecDepth 100000 in
theorem c_X3_used (l : Launch) (D : va_G) (Y : Nat → ClassId) (ad : MA) (t : MS) (sz : Nat)  (hv : ∀ o, qObj t o = true → mV t o) : Met l yX3_used wsX3_used ({ frames := 0, cells := 0, slots := 0, locals := 0 }) (wrPc D Y [.ref (mO ad)] (mW Y ad t) sz) (va_Qi (fun (ans : Int32) (u : MS) => ans = mUsed t ∧ u = mSetThr t 0) (wrB D (va_A (mW Y ad t) sz) (fun u : MS => mW Y ad u)) (va_A (mW Y ad t) sz)) (0) (0) (va_A (mW Y ad t) sz) := by
  refine wrOf (Qc := fun A => va_Qi (fun (ans : Int32) (u : MS) => ans = mUsed t ∧ u = mSetThr t 0) (wrB D A (fun u : MS => mW Y ad u)) A) (cc := cX3_used) (maxL := 1) (ret := (some .int)) (own := RX3) (by decide) rfl rfl (Nat.le_of_ble_eq_true rfl) ?_
  intro p e s m below meth c ls A hx hb hr hts hown hml hlocks hin hA hP hD hS hK hl
  have iwX3 : ∀ w ∈ u_ws RX3 TX3 19, w ∈ wsX3_used := fun _ h => List.mem_cons_of_mem _ (List.mem_append_right _ h)
  have hl : lv_has ls 1 [(0, .ref (mO ad))] := hl
  have hS : va_S A s.heap s.heap [] := hS
  refine lv_aload_n hx hb dX3_used_0 rfl (lv_at hl 0 rfl) ?_
  refine lv_iconst (v := 0) hx hb dX3_used_1 (by decide) ?_
  refine mFput0 (ad := ad) hx hb hts iwX3 hown hK hP hD hS (hts (.fieldLink RX3 65 "ObjectRowsModel" "thrown" "I") (by decide +kernel)) dX3_used_2 (fun H locs hP hD hS => ?_)
  refine lv_aload_n hx hb dX3_used_5 rfl (lv_at hl 0 rfl) ?_
  refine va_get (D := D) (ci := 4) (v := .int (mUsed t)) (C := RX3) (T := TX3) (N := 19) hx hb hts iwX3 hown hK hP 0 rfl rfl 2 (by decide) (hts (.fieldLink RX3 13 "ObjectRowsModel" "used" "I") (by decide +kernel)) (fun _ h9 => h9) rfl dX3_used_6 ?_
  refine W.widen (k := 0) (n := 0) (by omega) (by omega) ?_
  exact weI (wf := fun u : MS => mW Y ad u) (mSetThr t 0) hx hb hr hlocks hP hD hS dX3_used_9 (⟨by rfl, by rfl⟩)
theorem hdX3_used : yX3_used.cls = RX3 ∧ yX3_used.cls ≠ "java/lang/invoke/MethodHandle" ∧ yX3_used.cls ≠ "java/lang/invoke/VarHandle" ∧ (parseMethodDescriptor yX3_used.desc).map (fun d => d.parameters.length) = some 0 := by decide +kernel
set_option maxHeartbeats 4000000 in
set_option maxRecDepth 100000 in
theorem c_X3_length (l : Launch) (D : va_G) (Y : Nat → ClassId) (ad : MA) (t : MS) (sz : Nat) (o : Int32) (hv : ∀ o, qObj t o = true → mV t o) : Met l yX3_length wsX3_length ({ frames := 2, cells := 0, slots := 0, locals := 43 }) (wrPc D Y [.ref (mO ad), .int o] (mW Y ad t) sz) (va_Qi (fun (ans : Int32) (u : MS) => ans = fLength t o ∧ u = mSetThr t 0) (wrB D (va_A (mW Y ad t) sz) (fun u : MS => mW Y ad u)) (va_A (mW Y ad t) sz)) (0) (0) (va_A (mW Y ad t) sz) := by
  refine wrOf (Qc := fun A => va_Qi (fun (ans : Int32) (u : MS) => ans = fLength t o ∧ u = mSetThr t 0) (wrB D A (fun u : MS => mW Y ad u)) A) (cc := cX3_length) (maxL := 2) (ret := (some .int)) (own := RX3) (by decide) rfl rfl (Nat.le_of_ble_eq_true rfl) ?_
  intro p e s m below meth c ls A hx hb hr hts hown hml hlocks hin hA hP hD hS hK hl
  have iwX3 : ∀ w ∈ u_ws RX3 TX3 19, w ∈ wsX3_length := fun _ h => List.mem_cons_of_mem _ (List.mem_append_right _ h)
  have hl : lv_has ls 2 [(0, .ref (mO ad)), (1, .int o)] := hl
  have hS : va_S A s.heap s.heap [] := hS
  refine lv_aload_n hx hb dX3_length_0 rfl (lv_at hl 0 rfl) ?_
  refine lv_iconst (v := 0) hx hb dX3_length_1 (by decide) ?_
  refine mFput0 (ad := ad) hx hb hts iwX3 hown hK hP hD hS (hts (.fieldLink RX3 65 "ObjectRowsModel" "thrown" "I") (by decide +kernel)) dX3_length_2 (fun H locs hP hD hS => ?_)
  refine lv_aload_n hx hb dX3_length_5 rfl (lv_at hl 0 rfl) ?_
  refine lv_iload_n hx hb dX3_length_6 rfl (lv_at hl 1 rfl) ?_
  refine rcI (As := [.int o]) (rest := []) ⟨hx, hb, hml, hown, hts⟩ (c_X3_isObject l D Y ad (mSetThr t 0) o ) (cwV 1 hts gX3_length_X3_isObject rfl rfl rfl hdX3_isObject ⟨Nat.le_of_ble_eq_true rfl, Nat.le_of_ble_eq_true rfl⟩) hP hK 0 4 rfl rfl rfl hl.1 rfl (Nat.le_of_ble_eq_true rfl) dX3_length_7 ⟨(Nat.zero_le _), (Nat.zero_le _)⟩ (fun r1 hr1 => ?_)
  replace hr1 : r1 = bI (qObj t o) := hr1
  cases b2 : qObj t o
  · replace hr1 : r1 = 0 := by rw [hr1, b2]; rfl
    subst hr1
    refine lv_if_ne (tgt := 15) hx hb dX3_length_10 (by decide) (fun c3 => absurd (by decide) c3) (fun _ => ?_)
    refine lv_iconst (v := (-1)) hx hb dX3_length_13 (by decide) ?_
    refine W.widen (k := 0) (n := 0) (by omega) (by omega) ?_
    exact weI (wf := fun u : MS => mW Y ad u) (mSetThr t 0) hx hb hr hlocks hP hD hS dX3_length_14 (⟨by first | (simp only [fLength, b2, decide_true, decide_false, Bool.not_true, Bool.not_false, Bool.and_true, Bool.true_and, Bool.and_false, Bool.false_and, Bool.or_true, Bool.true_or, Bool.or_false, Bool.false_or, Bool.and_self, Bool.or_self, if_true, if_false, ite_true, ite_false, Bool.false_eq_true, reduceIte, not_true_eq_false, not_false_eq_true, and_true, true_and, and_false, false_and, or_true, true_or, or_false, false_or, and_self, or_self, eq_self, decide_eq_true_eq, Bool.true_eq_false, reduceCtorEq, ne_eq]; done) | (simp [fLength, b2]; done), by rfl⟩)
  · replace hr1 : r1 = 1 := by rw [hr1, b2]; rfl
    subst hr1
    refine lv_if_ne (tgt := 15) hx hb dX3_length_10 (by decide) (fun _ => ?_) (fun c4 => absurd c4 (by decide))
    refine lv_aload_n hx hb dX3_length_15 rfl (lv_at hl 0 rfl) ?_
    refine va_get (D := D) (ci := 4) (v := .ref (mH ad 0)) (C := RX3) (T := TX3) (N := 19) hx hb hts iwX3 hown hK hP 0 rfl rfl 4 (by decide) (hts (.fieldLink RX3 16 "ObjectRowsModel" "kinds" "[I") (by decide +kernel)) (fun _ h9 => h9) rfl dX3_length_16 ?_
    refine lv_iload_n hx hb dX3_length_19 rfl (lv_at hl 1 rfl) ?_
    refine va_iald hx hb hK hP 1 0 rfl rfl (hv o b2).1 dX3_length_20 ?_
    refine lv_topi (fun y5 ey5 => ?_)
    obtain rfl : y5 = mK t o := ey5
    refine lv_iconst (v := 3) hx hb dX3_length_21 (by decide) ?_
    refine lv_icmp_ne (tgt := 57) hx hb dX3_length_22 (by decide) (fun c6 => ?_) (fun c6 => ?_)
    · skip
      refine lv_aload_n hx hb dX3_length_57 rfl (lv_at hl 0 rfl) ?_
      refine lv_iload_n hx hb dX3_length_58 rfl (lv_at hl 1 rfl) ?_
      refine rcI (As := [.int o]) (rest := []) ⟨hx, hb, hml, hown, hts⟩ (c_X3_isView l D Y ad (mSetThr t 0) o (hv o b2).1) (cwV 1 hts gX3_length_X3_isView rfl rfl rfl hdX3_isView ⟨Nat.le_of_ble_eq_true rfl, Nat.le_of_ble_eq_true rfl⟩) hP hK 0 4 rfl rfl rfl hl.1 rfl (Nat.le_of_ble_eq_true rfl) dX3_length_59 ⟨(Nat.zero_le _), (Nat.zero_le _)⟩ (fun r7 hr7 => ?_)
      replace hr7 : r7 = bI (qView t o) := hr7
      cases b8 : qView t o
      · replace hr7 : r7 = 0 := by rw [hr7, b8]; rfl
        subst hr7
        refine lv_if_eq (tgt := 74) hx hb dX3_length_62 (by decide) (fun _ => ?_) (fun c9 => absurd (by decide) c9)
        refine lv_aload_n hx hb dX3_length_74 rfl (lv_at hl 0 rfl) ?_
        refine va_get (D := D) (ci := 4) (v := .ref (mH ad 0)) (C := RX3) (T := TX3) (N := 19) hx hb hts iwX3 hown hK hP 0 rfl rfl 4 (by decide) (hts (.fieldLink RX3 16 "ObjectRowsModel" "kinds" "[I") (by decide +kernel)) (fun _ h9 => h9) rfl dX3_length_75 ?_
        refine lv_iload_n hx hb dX3_length_78 rfl (lv_at hl 1 rfl) ?_
        refine va_iald hx hb hK hP 1 0 rfl rfl (hv o b2).1 dX3_length_79 ?_
        refine lv_topi (fun y10 ey10 => ?_)
        obtain rfl : y10 = mK t o := ey10
        refine lv_bipush (v := 7) hx hb dX3_length_80 (by decide) ?_
        refine lv_icmp_ne (tgt := 99) hx hb dX3_length_82 (by decide) (fun c11 => ?_) (fun c11 => ?_)
        · skip
          refine lv_bipush (v := (-3)) hx hb dX3_length_99 (by decide) ?_
          refine W.widen (k := 0) (n := 0) (by omega) (by omega) ?_
          exact weI (wf := fun u : MS => mW Y ad u) (mSetThr t 0) hx hb hr hlocks hP hD hS dX3_length_101 (⟨by first | (simp only [fLength, b2, c6, b8, c11, decide_true, decide_false, Bool.not_true, Bool.not_false, Bool.and_true, Bool.true_and, Bool.and_false, Bool.false_and, Bool.or_true, Bool.true_or, Bool.or_false, Bool.false_or, Bool.and_self, Bool.or_self, if_true, if_false, ite_true, ite_false, Bool.false_eq_true, reduceIte, not_true_eq_false, not_false_eq_true, and_true, true_and, and_false, false_and, or_true, true_or, or_false, false_or, and_self, or_self, eq_self, decide_eq_true_eq, Bool.true_eq_false, reduceCtorEq, ne_eq]; done) | (simp [fLength, b2, c6, b8, c11]; done), by rfl⟩)
        · skip
          refine lv_aload_n hx hb dX3_length_85 rfl (lv_at hl 0 rfl) ?_
          refine va_get (D := D) (ci := 4) (v := .ref (mH ad 10)) (C := RX3) (T := TX3) (N := 19) hx hb hts iwX3 hown hK hP 0 rfl rfl 14 (by decide) (hts (.fieldLink RX3 49 "ObjectRowsModel" "entries" "[I") (by decide +kernel)) (fun _ h9 => h9) rfl dX3_length_86 ?_
          refine lv_aload_n hx hb dX3_length_89 rfl (lv_at hl 0 rfl) ?_
          refine va_get (D := D) (ci := 4) (v := .ref (mH ad 1)) (C := RX3) (T := TX3) (N := 19) hx hb hts iwX3 hown hK hP 0 rfl rfl 5 (by decide) (hts (.fieldLink RX3 20 "ObjectRowsModel" "numbers" "[I") (by decide +kernel)) (fun _ h9 => h9) rfl dX3_length_90 ?_
          refine lv_iload_n hx hb dX3_length_93 rfl (lv_at hl 1 rfl) ?_
          refine va_iald hx hb hK hP 2 0 rfl rfl (hv o b2).1 dX3_length_94 ?_
          refine lv_topi (fun y12 ey12 => ?_)
          obtain rfl : y12 = mNu t o := ey12
          refine va_iald hx hb hK hP 11 0 rfl rfl ((hv o b2).2.2.2.2.2 c11).1 dX3_length_95 ?_
          refine lv_topi (fun y13 ey13 => ?_)
          obtain rfl : y13 = mEn t (mNu t o) := ey13
          refine lv_goto (tgt := 101) hx hb dX3_length_96 (by decide) ?_
          refine W.widen (k := 0) (n := 0) (by omega) (by omega) ?_
          exact weI (wf := fun u : MS => mW Y ad u) (mSetThr t 0) hx hb hr hlocks hP hD hS dX3_length_101 (⟨by first | (simp only [fLength, b2, c6, b8, c11, decide_true, decide_false, Bool.not_true, Bool.not_false, Bool.and_true, Bool.true_and, Bool.and_false, Bool.false_and, Bool.or_true, Bool.true_or, Bool.or_false, Bool.false_or, Bool.and_self, Bool.or_self, if_true, if_false, ite_true, ite_false, Bool.false_eq_true, reduceIte, not_true_eq_false, not_false_eq_true, and_true, true_and, and_false, false_and, or_true, true_or, or_false, false_or, and_self, or_self, eq_self, decide_eq_true_eq, Bool.true_eq_false, reduceCtorEq, ne_eq]; done) | (simp [fLength, b2, c6, b8, c11]; done) | (simp only [fLength, b2, c6, b8, eq_true c11, decide_true, decide_false, Bool.not_true, Bool.not_false, Bool.and_true, Bool.true_and, Bool.and_false, Bool.false_and, Bool.or_true, Bool.true_or, Bool.or_false, Bool.false_or, Bool.and_self, Bool.or_self, if_true, if_false, ite_true, ite_false, Bool.false_eq_true, reduceIte, not_true_eq_false, not_false_eq_true, and_true, true_and, and_false, false_and, or_true, true_or, or_false, false_or, and_self, or_self, eq_self, decide_eq_true_eq, Bool.true_eq_false, reduceCtorEq, ne_eq]; done) | (simp [fLength, b2, c6, b8, eq_true c11]; done), by rfl⟩)
      · replace hr7 : r7 = 1 := by rw [hr7, b8]; rfl
        subst hr7
        refine lv_if_eq (tgt := 74) hx hb dX3_length_62 (by decide) (fun c14 => absurd c14 (by decide)) (fun _ => ?_)
        refine lv_aload_n hx hb dX3_length_65 rfl (lv_at hl 0 rfl) ?_
        refine va_get (D := D) (ci := 4) (v := .ref (mH ad 3)) (C := RX3) (T := TX3) (N := 19) hx hb hts iwX3 hown hK hP 0 rfl rfl 7 (by decide) (hts (.fieldLink RX3 26 "ObjectRowsModel" "lengths" "[I") (by decide +kernel)) (fun _ h9 => h9) rfl dX3_length_66 ?_
        refine lv_iload_n hx hb dX3_length_69 rfl (lv_at hl 1 rfl) ?_
        refine va_iald hx hb hK hP 4 0 rfl rfl (hv o b2).1 dX3_length_70 ?_
        refine lv_topi (fun y15 ey15 => ?_)
        obtain rfl : y15 = mL t o := ey15
        refine lv_goto (tgt := 101) hx hb dX3_length_71 (by decide) ?_
        refine W.widen (k := 0) (n := 0) (by omega) (by omega) ?_
        exact weI (wf := fun u : MS => mW Y ad u) (mSetThr t 0) hx hb hr hlocks hP hD hS dX3_length_101 (⟨by first | (simp only [fLength, b2, c6, b8, decide_true, decide_false, Bool.not_true, Bool.not_false, Bool.and_true, Bool.true_and, Bool.and_false, Bool.false_and, Bool.or_true, Bool.true_or, Bool.or_false, Bool.false_or, Bool.and_self, Bool.or_self, if_true, if_false, ite_true, ite_false, Bool.false_eq_true, reduceIte, not_true_eq_false, not_false_eq_true, and_true, true_and, and_false, false_and, or_true, true_or, or_false, false_or, and_self, or_self, eq_self, decide_eq_true_eq, Bool.true_eq_false, reduceCtorEq, ne_eq]; done) | (simp [fLength, b2, c6, b8]; done), by rfl⟩)
    · skip
      refine lv_aload_n hx hb dX3_length_25 rfl (lv_at hl 0 rfl) ?_
      refine va_get (D := D) (ci := 4) (v := .ref (mH ad 1)) (C := RX3) (T := TX3) (N := 19) hx hb hts iwX3 hown hK hP 0 rfl rfl 5 (by decide) (hts (.fieldLink RX3 20 "ObjectRowsModel" "numbers" "[I") (by decide +kernel)) (fun _ h9 => h9) rfl dX3_length_26 ?_
      refine lv_iload_n hx hb dX3_length_29 rfl (lv_at hl 1 rfl) ?_
      refine va_iald hx hb hK hP 2 0 rfl rfl (hv o b2).1 dX3_length_30 ?_
      refine lv_topi (fun y16 ey16 => ?_)
      obtain rfl : y16 = mNu t o := ey16
      refine lv_bipush (v := 10) hx hb dX3_length_31 (by decide) ?_
      refine lv_icmp_ge (tgt := 40) hx hb dX3_length_33 (by decide) (fun c17 => ?_) (fun c17 => ?_)
      · skip
        refine lv_aload_n hx hb dX3_length_40 rfl (lv_at hl 0 rfl) ?_
        refine va_get (D := D) (ci := 4) (v := .ref (mH ad 1)) (C := RX3) (T := TX3) (N := 19) hx hb hts iwX3 hown hK hP 0 rfl rfl 5 (by decide) (hts (.fieldLink RX3 20 "ObjectRowsModel" "numbers" "[I") (by decide +kernel)) (fun _ h9 => h9) rfl dX3_length_41 ?_
        refine lv_iload_n hx hb dX3_length_44 rfl (lv_at hl 1 rfl) ?_
        refine va_iald hx hb hK hP 2 0 rfl rfl (hv o b2).1 dX3_length_45 ?_
        refine lv_topi (fun y18 ey18 => ?_)
        obtain rfl : y18 = mNu t o := ey18
        refine lv_bipush (v := 100) hx hb dX3_length_46 (by decide) ?_
        refine lv_icmp_ge (tgt := 55) hx hb dX3_length_48 (by decide) (fun c19 => ?_) (fun c19 => ?_)
        · skip
          refine lv_iconst (v := 3) hx hb dX3_length_55 (by decide) ?_
          refine W.widen (k := 0) (n := 0) (by omega) (by omega) ?_
          exact weI (wf := fun u : MS => mW Y ad u) (mSetThr t 0) hx hb hr hlocks hP hD hS dX3_length_56 (⟨by first | (simp only [fLength, b2, c6, c17, c19, decide_true, decide_false, Bool.not_true, Bool.not_false, Bool.and_true, Bool.true_and, Bool.and_false, Bool.false_and, Bool.or_true, Bool.true_or, Bool.or_false, Bool.false_or, Bool.and_self, Bool.or_self, if_true, if_false, ite_true, ite_false, Bool.false_eq_true, reduceIte, not_true_eq_false, not_false_eq_true, and_true, true_and, and_false, false_and, or_true, true_or, or_false, false_or, and_self, or_self, eq_self, decide_eq_true_eq, Bool.true_eq_false, reduceCtorEq, ne_eq]; done) | (simp [fLength, b2, c6, c17, c19, Int32.not_lt.mpr c17, Int32.not_lt.mpr c19]; done) | (simp only [fLength, b2, eq_true c6, c17, c19, decide_true, decide_false, Bool.not_true, Bool.not_false, Bool.and_true, Bool.true_and, Bool.and_false, Bool.false_and, Bool.or_true, Bool.true_or, Bool.or_false, Bool.false_or, Bool.and_self, Bool.or_self, if_true, if_false, ite_true, ite_false, Bool.false_eq_true, reduceIte, not_true_eq_false, not_false_eq_true, and_true, true_and, and_false, false_and, or_true, true_or, or_false, false_or, and_self, or_self, eq_self, decide_eq_true_eq, Bool.true_eq_false, reduceCtorEq, ne_eq]; done) | (simp [fLength, b2, eq_true c6, c17, c19, Int32.not_lt.mpr c17, Int32.not_lt.mpr c19]; done), by rfl⟩)
        · skip
          refine lv_iconst (v := 2) hx hb dX3_length_51 (by decide) ?_
          refine lv_goto (tgt := 56) hx hb dX3_length_52 (by decide) ?_
          refine W.widen (k := 0) (n := 0) (by omega) (by omega) ?_
          exact weI (wf := fun u : MS => mW Y ad u) (mSetThr t 0) hx hb hr hlocks hP hD hS dX3_length_56 (⟨by first | (simp only [fLength, b2, c6, c17, c19, decide_true, decide_false, Bool.not_true, Bool.not_false, Bool.and_true, Bool.true_and, Bool.and_false, Bool.false_and, Bool.or_true, Bool.true_or, Bool.or_false, Bool.false_or, Bool.and_self, Bool.or_self, if_true, if_false, ite_true, ite_false, Bool.false_eq_true, reduceIte, not_true_eq_false, not_false_eq_true, and_true, true_and, and_false, false_and, or_true, true_or, or_false, false_or, and_self, or_self, eq_self, decide_eq_true_eq, Bool.true_eq_false, reduceCtorEq, ne_eq]; done) | (simp [fLength, b2, c6, c17, c19, Int32.not_lt.mpr c17, Int32.not_le.mp c19]; done) | (simp only [fLength, b2, eq_true c6, c17, c19, decide_true, decide_false, Bool.not_true, Bool.not_false, Bool.and_true, Bool.true_and, Bool.and_false, Bool.false_and, Bool.or_true, Bool.true_or, Bool.or_false, Bool.false_or, Bool.and_self, Bool.or_self, if_true, if_false, ite_true, ite_false, Bool.false_eq_true, reduceIte, not_true_eq_false, not_false_eq_true, and_true, true_and, and_false, false_and, or_true, true_or, or_false, false_or, and_self, or_self, eq_self, decide_eq_true_eq, Bool.true_eq_false, reduceCtorEq, ne_eq]; done) | (simp [fLength, b2, eq_true c6, c17, c19, Int32.not_lt.mpr c17, Int32.not_le.mp c19]; done), by rfl⟩)
      · skip
        refine lv_iconst (v := 1) hx hb dX3_length_36 (by decide) ?_
        refine lv_goto (tgt := 56) hx hb dX3_length_37 (by decide) ?_
        refine W.widen (k := 0) (n := 0) (by omega) (by omega) ?_
        exact weI (wf := fun u : MS => mW Y ad u) (mSetThr t 0) hx hb hr hlocks hP hD hS dX3_length_56 (⟨by first | (simp only [fLength, b2, c6, c17, decide_true, decide_false, Bool.not_true, Bool.not_false, Bool.and_true, Bool.true_and, Bool.and_false, Bool.false_and, Bool.or_true, Bool.true_or, Bool.or_false, Bool.false_or, Bool.and_self, Bool.or_self, if_true, if_false, ite_true, ite_false, Bool.false_eq_true, reduceIte, not_true_eq_false, not_false_eq_true, and_true, true_and, and_false, false_and, or_true, true_or, or_false, false_or, and_self, or_self, eq_self, decide_eq_true_eq, Bool.true_eq_false, reduceCtorEq, ne_eq]; done) | (simp [fLength, b2, c6, c17, Int32.not_le.mp c17]; done) | (simp only [fLength, b2, eq_true c6, c17, decide_true, decide_false, Bool.not_true, Bool.not_false, Bool.and_true, Bool.true_and, Bool.and_false, Bool.false_and, Bool.or_true, Bool.true_or, Bool.or_false, Bool.false_or, Bool.and_self, Bool.or_self, if_true, if_false, ite_true, ite_false, Bool.false_eq_true, reduceIte, not_true_eq_false, not_false_eq_true, and_true, true_and, and_false, false_and, or_true, true_or, or_false, false_or, and_self, or_self, eq_self, decide_eq_true_eq, Bool.true_eq_false, reduceCtorEq, ne_eq]; done) | (simp [fLength, b2, eq_true c6, c17, Int32.not_le.mp c17]; done), by rfl⟩)
theorem hdX3_length : yX3_length.cls = RX3 ∧ yX3_length.cls ≠ "java/lang/invoke/MethodHandle" ∧ yX3_length.cls ≠ "java/lang/invoke/VarHandle" ∧ (parseMethodDescriptor yX3_length.desc).map (fun d => d.parameters.length) = some 1 := by decide +kernel
set_option maxHeartbeats 4000000 in
set_option maxRecDepth 100000 in
theorem c_X3_told (l : Launch) (D : va_G) (Y : Nat → ClassId) (ad : MA) (t : MS) (sz : Nat) (o : Int32) (w : Int32) (hv : ∀ o, qObj t o = true → mV t o) : Met l yX3_told wsX3_told ({ frames := 2, cells := 0, slots := 0, locals := 43 }) (wrPc D Y [.ref (mO ad), .int o, .int w] (mW Y ad t) sz) (va_Qi (fun (ans : Int32) (u : MS) => ans = fTold t o w ∧ u = mSetThr t 0) (wrB D (va_A (mW Y ad t) sz) (fun u : MS => mW Y ad u)) (va_A (mW Y ad t) sz)) (0) (0) (va_A (mW Y ad t) sz) := by
  refine wrOf (Qc := fun A => va_Qi (fun (ans : Int32) (u : MS) => ans = fTold t o w ∧ u = mSetThr t 0) (wrB D A (fun u : MS => mW Y ad u)) A) (cc := cX3_told) (maxL := 4) (ret := (some .int)) (own := RX3) (by decide) rfl rfl (Nat.le_of_ble_eq_true rfl) ?_
  intro p e s m below meth c ls A hx hb hr hts hown hml hlocks hin hA hP hD hS hK hl
  have iwX3 : ∀ w ∈ u_ws RX3 TX3 19, w ∈ wsX3_told := fun _ h => List.mem_cons_of_mem _ (List.mem_append_right _ h)
  have hl : lv_has ls 4 [(0, .ref (mO ad)), (1, .int o), (2, .int w)] := hl
  have hS : va_S A s.heap s.heap [] := hS
  refine lv_aload_n hx hb dX3_told_0 rfl (lv_at hl 0 rfl) ?_
  refine lv_iconst (v := 0) hx hb dX3_told_1 (by decide) ?_
  refine mFput0 (ad := ad) hx hb hts iwX3 hown hK hP hD hS (hts (.fieldLink RX3 65 "ObjectRowsModel" "thrown" "I") (by decide +kernel)) dX3_told_2 (fun H locs hP hD hS => ?_)
  refine lv_aload_n hx hb dX3_told_5 rfl (lv_at hl 0 rfl) ?_
  refine lv_iload_n hx hb dX3_told_6 rfl (lv_at hl 1 rfl) ?_
  refine rcI (As := [.int o]) (rest := []) ⟨hx, hb, hml, hown, hts⟩ (c_X3_isObject l D Y ad (mSetThr t 0) o ) (cwV 1 hts gX3_told_X3_isObject rfl rfl rfl hdX3_isObject ⟨Nat.le_of_ble_eq_true rfl, Nat.le_of_ble_eq_true rfl⟩) hP hK 0 4 rfl rfl rfl hl.1 rfl (Nat.le_of_ble_eq_true rfl) dX3_told_7 ⟨(Nat.zero_le _), (Nat.zero_le _)⟩ (fun r1 hr1 => ?_)
  replace hr1 : r1 = bI (qObj t o) := hr1
  cases b2 : qObj t o
  · replace hr1 : r1 = 0 := by rw [hr1, b2]; rfl
    subst hr1
    refine lv_if_ne (tgt := 15) hx hb dX3_told_10 (by decide) (fun c3 => absurd (by decide) c3) (fun _ => ?_)
    refine lv_iconst (v := (-1)) hx hb dX3_told_13 (by decide) ?_
    refine W.widen (k := 0) (n := 0) (by omega) (by omega) ?_
    exact weI (wf := fun u : MS => mW Y ad u) (mSetThr t 0) hx hb hr hlocks hP hD hS dX3_told_14 (⟨by first | (simp only [fTold, b2, decide_true, decide_false, Bool.not_true, Bool.not_false, Bool.and_true, Bool.true_and, Bool.and_false, Bool.false_and, Bool.or_true, Bool.true_or, Bool.or_false, Bool.false_or, Bool.and_self, Bool.or_self, if_true, if_false, ite_true, ite_false, Bool.false_eq_true, reduceIte, not_true_eq_false, not_false_eq_true, and_true, true_and, and_false, false_and, or_true, true_or, or_false, false_or, and_self, or_self, eq_self, decide_eq_true_eq, Bool.true_eq_false, reduceCtorEq, ne_eq]; done) | (simp [fTold, b2]; done), by rfl⟩)
  · replace hr1 : r1 = 1 := by rw [hr1, b2]; rfl
    subst hr1
    refine lv_if_ne (tgt := 15) hx hb dX3_told_10 (by decide) (fun _ => ?_) (fun c4 => absurd c4 (by decide))
    refine lv_aload_n hx hb dX3_told_15 rfl (lv_at hl 0 rfl) ?_
    refine va_get (D := D) (ci := 4) (v := .ref (mH ad 0)) (C := RX3) (T := TX3) (N := 19) hx hb hts iwX3 hown hK hP 0 rfl rfl 4 (by decide) (hts (.fieldLink RX3 16 "ObjectRowsModel" "kinds" "[I") (by decide +kernel)) (fun _ h9 => h9) rfl dX3_told_16 ?_
    refine lv_iload_n hx hb dX3_told_19 rfl (lv_at hl 1 rfl) ?_
    refine va_iald hx hb hK hP 1 0 rfl rfl (hv o b2).1 dX3_told_20 ?_
    refine lv_topi (fun y5 ey5 => ?_)
    obtain rfl : y5 = mK t o := ey5
    refine lv_bipush (v := 7) hx hb dX3_told_21 (by decide) ?_
    refine lv_icmp_ne (tgt := 30) hx hb dX3_told_23 (by decide) (fun c6 => ?_) (fun c6 => ?_)
    · skip
      refine lv_iconst (v := 0) hx hb dX3_told_30 (by decide) ?_
      refine lv_istore_n (lv' := [(3, .int 0), (0, .ref (mO ad)), (1, .int o), (2, .int w)]) hx hb dX3_told_31 rfl hl (by decide) rfl (fun ls hl => ?_)
      refine lv_iload_n hx hb dX3_told_32 rfl (lv_at hl 3 rfl) ?_
      by_cases c7 : w = 0
      · refine lv_tableIn (off := 35) (tgt := 68) hx hb dX3_told_33 (by rw [c7]; decide) (by rw [c7]; decide) (by rw [c7]; decide) (by decide) ?_
        refine lv_aload_n hx hb dX3_told_68 rfl (lv_at hl 1 rfl) ?_
        refine va_get (D := D) (ci := 4) (v := .ref (mH ad 5)) (C := RX3) (T := TX3) (N := 19) hx hb hts iwX3 hown hK hP 0 rfl rfl 9 (by decide) (hts (.fieldLink RX3 33 "ObjectRowsModel" "executable" "[Z") (by decide +kernel)) (fun _ h9 => h9) rfl dX3_told_69 ?_
        refine lv_iload_n hx hb dX3_told_72 rfl (lv_at hl 2 rfl) ?_
        refine va_zald hx hb hK hP 6 2 rfl rfl (in400 (hv o b2).1) dX3_told_73 ?_
        refine lv_topi (fun y8 ey8 => ?_)
        obtain rfl : y8 = mEx t o := ey8
        refine lv_if_eq (tgt := 81) hx hb dX3_told_74 (by decide) (fun c9 => ?_) (fun c9 => ?_)
        · skip
          refine lv_iconst (v := 0) hx hb dX3_told_81 (by decide) ?_
          refine W.widen (k := 0) (n := 0) (by omega) (by omega) ?_
          exact weI (wf := fun u : MS => mW Y ad u) (mSetThr t 0) hx hb hr hlocks hP hD hS dX3_told_82 (⟨by first | (simp only [fTold, b2, c6, c7, c9, decide_true, decide_false, Bool.not_true, Bool.not_false, Bool.and_true, Bool.true_and, Bool.and_false, Bool.false_and, Bool.or_true, Bool.true_or, Bool.or_false, Bool.false_or, Bool.and_self, Bool.or_self, if_true, if_false, ite_true, ite_false, Bool.false_eq_true, reduceIte, not_true_eq_false, not_false_eq_true, and_true, true_and, and_false, false_and, or_true, true_or, or_false, false_or, and_self, or_self, eq_self, decide_eq_true_eq, Bool.true_eq_false, reduceCtorEq, ne_eq]; done) | (simp [fTold, b2, c6, c7, c9]; done) | (simp only [fTold, b2, c6, c7, eq_true c9, decide_true, decide_false, Bool.not_true, Bool.not_false, Bool.and_true, Bool.true_and, Bool.and_false, Bool.false_and, Bool.or_true, Bool.true_or, Bool.or_false, Bool.false_or, Bool.and_self, Bool.or_self, if_true, if_false, ite_true, ite_false, Bool.false_eq_true, reduceIte, not_true_eq_false, not_false_eq_true, and_true, true_and, and_false, false_and, or_true, true_or, or_false, false_or, and_self, or_self, eq_self, decide_eq_true_eq, Bool.true_eq_false, reduceCtorEq, ne_eq]; done) | (simp [fTold, b2, c6, c7, eq_true c9]; done), by rfl⟩)
        · skip
          refine lv_iconst (v := 1) hx hb dX3_told_77 (by decide) ?_
          refine lv_goto (tgt := 82) hx hb dX3_told_78 (by decide) ?_
          refine W.widen (k := 0) (n := 0) (by omega) (by omega) ?_
          exact weI (wf := fun u : MS => mW Y ad u) (mSetThr t 0) hx hb hr hlocks hP hD hS dX3_told_82 (⟨by first | (simp only [fTold, b2, c6, c7, c9, decide_true, decide_false, Bool.not_true, Bool.not_false, Bool.and_true, Bool.true_and, Bool.and_false, Bool.false_and, Bool.or_true, Bool.true_or, Bool.or_false, Bool.false_or, Bool.and_self, Bool.or_self, if_true, if_false, ite_true, ite_false, Bool.false_eq_true, reduceIte, not_true_eq_false, not_false_eq_true, and_true, true_and, and_false, false_and, or_true, true_or, or_false, false_or, and_self, or_self, eq_self, decide_eq_true_eq, Bool.true_eq_false, reduceCtorEq, ne_eq]; done) | (simp [fTold, b2, c6, c7, c9]; done), by rfl⟩)
      by_cases c10 : w = 1
      · refine lv_tableIn (off := 50) (tgt := 83) hx hb dX3_told_33 (by rw [c10]; decide) (by rw [c10]; decide) (by rw [c10]; decide) (by decide) ?_
        refine lv_aload_n hx hb dX3_told_83 rfl (lv_at hl 1 rfl) ?_
        refine lv_iload_n hx hb dX3_told_84 rfl (lv_at hl 2 rfl) ?_
        refine rcI (As := [.int o]) (rest := []) ⟨hx, hb, hml, hown, hts⟩ (c_X3_hasAccess l D Y ad (mSetThr t 0) o (hv o b2).1) (cwV 1 hts gX3_told_X3_hasAccess rfl rfl rfl hdX3_hasAccess ⟨Nat.le_of_ble_eq_true rfl, Nat.le_of_ble_eq_true rfl⟩) hP hK 0 4 rfl rfl rfl hl.1 rfl (Nat.le_of_ble_eq_true rfl) dX3_told_85 ⟨(Nat.zero_le _), (Nat.zero_le _)⟩ (fun r11 hr11 => ?_)
        replace hr11 : r11 = bI (qHasAcc t o) := hr11
        cases b12 : qHasAcc t o
        · replace hr11 : r11 = 0 := by rw [hr11, b12]; rfl
          subst hr11
          refine lv_if_eq (tgt := 99) hx hb dX3_told_88 (by decide) (fun _ => ?_) (fun c13 => absurd (by decide) c13)
          refine lv_iconst (v := 0) hx hb dX3_told_99 (by decide) ?_
          refine W.widen (k := 0) (n := 0) (by omega) (by omega) ?_
          exact weI (wf := fun u : MS => mW Y ad u) (mSetThr t 0) hx hb hr hlocks hP hD hS dX3_told_100 (⟨by first | (simp only [fTold, b2, c6, c7, c10, b12, decide_true, decide_false, Bool.not_true, Bool.not_false, Bool.and_true, Bool.true_and, Bool.and_false, Bool.false_and, Bool.or_true, Bool.true_or, Bool.or_false, Bool.false_or, Bool.and_self, Bool.or_self, if_true, if_false, ite_true, ite_false, Bool.false_eq_true, reduceIte, not_true_eq_false, not_false_eq_true, and_true, true_and, and_false, false_and, or_true, true_or, or_false, false_or, and_self, or_self, eq_self, decide_eq_true_eq, Bool.true_eq_false, reduceCtorEq, ne_eq]; done) | (simp [fTold, b2, c6, c7, c10, b12]; done), by rfl⟩)
        · replace hr11 : r11 = 1 := by rw [hr11, b12]; rfl
          subst hr11
          refine lv_if_eq (tgt := 99) hx hb dX3_told_88 (by decide) (fun c14 => absurd c14 (by decide)) (fun _ => ?_)
          refine lv_aload_n hx hb dX3_told_91 rfl (lv_at hl 1 rfl) ?_
          refine lv_iload_n hx hb dX3_told_92 rfl (lv_at hl 2 rfl) ?_
          refine rcI (As := [.int o]) (rest := []) ⟨hx, hb, hml, hown, hts⟩ (c_X3_accessOf l D Y ad (mSetThr t 0) o (hv o b2).1 (hv o b2).2.1) (cwV 1 hts gX3_told_X3_accessOf rfl rfl rfl hdX3_accessOf ⟨Nat.le_of_ble_eq_true rfl, Nat.le_of_ble_eq_true rfl⟩) hP hK 0 4 rfl rfl rfl hl.1 rfl (Nat.le_of_ble_eq_true rfl) dX3_told_93 ⟨(Nat.zero_le _), (Nat.zero_le _)⟩ (fun r15 hr15 => ?_)
          obtain rfl : r15 = qAcc t o := hr15
          refine lv_goto (tgt := 100) hx hb dX3_told_96 (by decide) ?_
          refine W.widen (k := 0) (n := 0) (by omega) (by omega) ?_
          exact weI (wf := fun u : MS => mW Y ad u) (mSetThr t 0) hx hb hr hlocks hP hD hS dX3_told_100 (⟨by first | (simp only [fTold, b2, c6, c7, c10, b12, decide_true, decide_false, Bool.not_true, Bool.not_false, Bool.and_true, Bool.true_and, Bool.and_false, Bool.false_and, Bool.or_true, Bool.true_or, Bool.or_false, Bool.false_or, Bool.and_self, Bool.or_self, if_true, if_false, ite_true, ite_false, Bool.false_eq_true, reduceIte, not_true_eq_false, not_false_eq_true, and_true, true_and, and_false, false_and, or_true, true_or, or_false, false_or, and_self, or_self, eq_self, decide_eq_true_eq, Bool.true_eq_false, reduceCtorEq, ne_eq]; done) | (simp [fTold, b2, c6, c7, c10, b12]; done), by rfl⟩)
      by_cases c16 : w = 2
      · refine lv_tableIn (off := 68) (tgt := 101) hx hb dX3_told_33 (by rw [c16]; decide) (by rw [c16]; decide) (by rw [c16]; decide) (by decide) ?_
        refine lv_iload_n hx hb dX3_told_101 rfl (lv_at hl 0 rfl) ?_
        refine lv_if_eq (tgt := 123) hx hb dX3_told_102 (by decide) (fun _ => ?_) (fun c17 => absurd (by decide) c17)
        refine lv_iconst (v := 0) hx hb dX3_told_123 (by decide) ?_
        refine W.widen (k := 0) (n := 0) (by omega) (by omega) ?_
        exact weI (wf := fun u : MS => mW Y ad u) (mSetThr t 0) hx hb hr hlocks hP hD hS dX3_told_124 (⟨by first | (simp only [fTold, b2, c6, c7, c10, c16, decide_true, decide_false, Bool.not_true, Bool.not_false, Bool.and_true, Bool.true_and, Bool.and_false, Bool.false_and, Bool.or_true, Bool.true_or, Bool.or_false, Bool.false_or, Bool.and_self, Bool.or_self, if_true, if_false, ite_true, ite_false, Bool.false_eq_true, reduceIte, not_true_eq_false, not_false_eq_true, and_true, true_and, and_false, false_and, or_true, true_or, or_false, false_or, and_self, or_self, eq_self, decide_eq_true_eq, Bool.true_eq_false, reduceCtorEq, ne_eq]; done) | (simp [fTold, b2, c6, c7, c10, c16]; done), by rfl⟩)
      by_cases c18 : w = 3
      · refine lv_tableIn (off := 92) (tgt := 125) hx hb dX3_told_33 (by rw [c18]; decide) (by rw [c18]; decide) (by rw [c18]; decide) (by decide) ?_
        refine lv_aload_n hx hb dX3_told_125 rfl (lv_at hl 1 rfl) ?_
        refine va_get (D := D) (ci := 4) (v := .ref (mH ad 0)) (C := RX3) (T := TX3) (N := 19) hx hb hts iwX3 hown hK hP 0 rfl rfl 4 (by decide) (hts (.fieldLink RX3 16 "ObjectRowsModel" "kinds" "[I") (by decide +kernel)) (fun _ h9 => h9) rfl dX3_told_126 ?_
        refine lv_iload_n hx hb dX3_told_129 rfl (lv_at hl 2 rfl) ?_
        refine va_iald hx hb hK hP 1 0 rfl rfl (hv o b2).1 dX3_told_130 ?_
        refine lv_topi (fun y19 ey19 => ?_)
        obtain rfl : y19 = mK t o := ey19
        refine lv_iconst (v := 1) hx hb dX3_told_131 (by decide) ?_
        refine lv_iconst (v := 3) hx hb dX3_told_132 (by decide) ?_
        refine scI (As := [.int (mK t o), .int 1, .int 3]) (rest := []) ⟨hx, hb, hml, hown, hts⟩ (c_X3_within l (mK t o) 1 3) (va_cwS 3 hts gX3_told_X3_within rfl rfl rfl hdX3_within ⟨Nat.le_of_ble_eq_true rfl, Nat.le_of_ble_eq_true rfl⟩) rfl hl.1 rfl (Nat.le_of_ble_eq_true rfl) dX3_told_133 ⟨(Nat.zero_le _), (Nat.zero_le _)⟩ (fun r20 hr20 => ?_)
        replace hr20 : r20 = bI (qWithin (mK t o) 1 3) := hr20
        cases b21 : qWithin (mK t o) 1 3
        · replace hr20 : r20 = 0 := by rw [hr20, b21]; rfl
          subst hr20
          refine lv_if_ne (tgt := 161) hx hb dX3_told_136 (by decide) (fun c22 => absurd (by decide) c22) (fun _ => ?_)
          refine lv_aload_n hx hb dX3_told_139 rfl (lv_at hl 1 rfl) ?_
          refine va_get (D := D) (ci := 4) (v := .ref (mH ad 0)) (C := RX3) (T := TX3) (N := 19) hx hb hts iwX3 hown hK hP 0 rfl rfl 4 (by decide) (hts (.fieldLink RX3 16 "ObjectRowsModel" "kinds" "[I") (by decide +kernel)) (fun _ h9 => h9) rfl dX3_told_140 ?_
          refine lv_iload_n hx hb dX3_told_143 rfl (lv_at hl 2 rfl) ?_
          refine va_iald hx hb hK hP 1 0 rfl rfl (hv o b2).1 dX3_told_144 ?_
          refine lv_topi (fun y23 ey23 => ?_)
          obtain rfl : y23 = mK t o := ey23
          refine lv_bipush (v := 9) hx hb dX3_told_145 (by decide) ?_
          refine lv_icmp_eq (tgt := 161) hx hb dX3_told_147 (by decide) (fun c24 => ?_) (fun c24 => ?_)
          · skip
            refine lv_aload_n hx hb dX3_told_161 rfl (lv_at hl 1 rfl) ?_
            refine va_get (D := D) (ci := 4) (v := .ref (mH ad 1)) (C := RX3) (T := TX3) (N := 19) hx hb hts iwX3 hown hK hP 0 rfl rfl 5 (by decide) (hts (.fieldLink RX3 20 "ObjectRowsModel" "numbers" "[I") (by decide +kernel)) (fun _ h9 => h9) rfl dX3_told_162 ?_
            refine lv_iload_n hx hb dX3_told_165 rfl (lv_at hl 2 rfl) ?_
            refine va_iald hx hb hK hP 2 0 rfl rfl (hv o b2).1 dX3_told_166 ?_
            refine lv_topi (fun y25 ey25 => ?_)
            obtain rfl : y25 = mNu t o := ey25
            refine lv_goto (tgt := 171) hx hb dX3_told_167 (by decide) ?_
            refine W.widen (k := 0) (n := 0) (by omega) (by omega) ?_
            exact weI (wf := fun u : MS => mW Y ad u) (mSetThr t 0) hx hb hr hlocks hP hD hS dX3_told_171 (⟨by first | (simp only [fTold, b2, c6, c7, c10, c16, c18, b21, c24, decide_true, decide_false, Bool.not_true, Bool.not_false, Bool.and_true, Bool.true_and, Bool.and_false, Bool.false_and, Bool.or_true, Bool.true_or, Bool.or_false, Bool.false_or, Bool.and_self, Bool.or_self, if_true, if_false, ite_true, ite_false, Bool.false_eq_true, reduceIte, not_true_eq_false, not_false_eq_true, and_true, true_and, and_false, false_and, or_true, true_or, or_false, false_or, and_self, or_self, eq_self, decide_eq_true_eq, Bool.true_eq_false, reduceCtorEq, ne_eq]; done) | (simp [fTold, b2, c6, c7, c10, c16, c18, b21, c24]; done) | (simp only [fTold, b2, c6, c7, c10, c16, c18, b21, eq_true c24, decide_true, decide_false, Bool.not_true, Bool.not_false, Bool.and_true, Bool.true_and, Bool.and_false, Bool.false_and, Bool.or_true, Bool.true_or, Bool.or_false, Bool.false_or, Bool.and_self, Bool.or_self, if_true, if_false, ite_true, ite_false, Bool.false_eq_true, reduceIte, not_true_eq_false, not_false_eq_true, and_true, true_and, and_false, false_and, or_true, true_or, or_false, false_or, and_self, or_self, eq_self, decide_eq_true_eq, Bool.true_eq_false, reduceCtorEq, ne_eq]; done) | (simp [fTold, b2, c6, c7, c10, c16, c18, b21, eq_true c24]; done), by rfl⟩)
          · skip
            refine lv_aload_n hx hb dX3_told_150 rfl (lv_at hl 1 rfl) ?_
            refine va_get (D := D) (ci := 4) (v := .ref (mH ad 0)) (C := RX3) (T := TX3) (N := 19) hx hb hts iwX3 hown hK hP 0 rfl rfl 4 (by decide) (hts (.fieldLink RX3 16 "ObjectRowsModel" "kinds" "[I") (by decide +kernel)) (fun _ h9 => h9) rfl dX3_told_151 ?_
            refine lv_iload_n hx hb dX3_told_154 rfl (lv_at hl 2 rfl) ?_
            refine va_iald hx hb hK hP 1 0 rfl rfl (hv o b2).1 dX3_told_155 ?_
            refine lv_topi (fun y26 ey26 => ?_)
            obtain rfl : y26 = mK t o := ey26
            refine lv_bipush (v := 10) hx hb dX3_told_156 (by decide) ?_
            refine lv_icmp_ne (tgt := 170) hx hb dX3_told_158 (by decide) (fun c27 => ?_) (fun c27 => ?_)
            · skip
              refine lv_iconst (v := 0) hx hb dX3_told_170 (by decide) ?_
              refine W.widen (k := 0) (n := 0) (by omega) (by omega) ?_
              exact weI (wf := fun u : MS => mW Y ad u) (mSetThr t 0) hx hb hr hlocks hP hD hS dX3_told_171 (⟨by first | (simp only [fTold, b2, c6, c7, c10, c16, c18, b21, c24, c27, decide_true, decide_false, Bool.not_true, Bool.not_false, Bool.and_true, Bool.true_and, Bool.and_false, Bool.false_and, Bool.or_true, Bool.true_or, Bool.or_false, Bool.false_or, Bool.and_self, Bool.or_self, if_true, if_false, ite_true, ite_false, Bool.false_eq_true, reduceIte, not_true_eq_false, not_false_eq_true, and_true, true_and, and_false, false_and, or_true, true_or, or_false, false_or, and_self, or_self, eq_self, decide_eq_true_eq, Bool.true_eq_false, reduceCtorEq, ne_eq]; done) | (simp [fTold, b2, c6, c7, c10, c16, c18, b21, c24, c27]; done), by rfl⟩)
            · skip
              refine lv_aload_n hx hb dX3_told_161 rfl (lv_at hl 1 rfl) ?_
              refine va_get (D := D) (ci := 4) (v := .ref (mH ad 1)) (C := RX3) (T := TX3) (N := 19) hx hb hts iwX3 hown hK hP 0 rfl rfl 5 (by decide) (hts (.fieldLink RX3 20 "ObjectRowsModel" "numbers" "[I") (by decide +kernel)) (fun _ h9 => h9) rfl dX3_told_162 ?_
              refine lv_iload_n hx hb dX3_told_165 rfl (lv_at hl 2 rfl) ?_
              refine va_iald hx hb hK hP 2 0 rfl rfl (hv o b2).1 dX3_told_166 ?_
              refine lv_topi (fun y28 ey28 => ?_)
              obtain rfl : y28 = mNu t o := ey28
              refine lv_goto (tgt := 171) hx hb dX3_told_167 (by decide) ?_
              refine W.widen (k := 0) (n := 0) (by omega) (by omega) ?_
              exact weI (wf := fun u : MS => mW Y ad u) (mSetThr t 0) hx hb hr hlocks hP hD hS dX3_told_171 (⟨by first | (simp only [fTold, b2, c6, c7, c10, c16, c18, b21, c24, c27, decide_true, decide_false, Bool.not_true, Bool.not_false, Bool.and_true, Bool.true_and, Bool.and_false, Bool.false_and, Bool.or_true, Bool.true_or, Bool.or_false, Bool.false_or, Bool.and_self, Bool.or_self, if_true, if_false, ite_true, ite_false, Bool.false_eq_true, reduceIte, not_true_eq_false, not_false_eq_true, and_true, true_and, and_false, false_and, or_true, true_or, or_false, false_or, and_self, or_self, eq_self, decide_eq_true_eq, Bool.true_eq_false, reduceCtorEq, ne_eq]; done) | (simp [fTold, b2, c6, c7, c10, c16, c18, b21, c24, c27]; done) | (simp only [fTold, b2, c6, c7, c10, c16, c18, b21, c24, eq_true c27, decide_true, decide_false, Bool.not_true, Bool.not_false, Bool.and_true, Bool.true_and, Bool.and_false, Bool.false_and, Bool.or_true, Bool.true_or, Bool.or_false, Bool.false_or, Bool.and_self, Bool.or_self, if_true, if_false, ite_true, ite_false, Bool.false_eq_true, reduceIte, not_true_eq_false, not_false_eq_true, and_true, true_and, and_false, false_and, or_true, true_or, or_false, false_or, and_self, or_self, eq_self, decide_eq_true_eq, Bool.true_eq_false, reduceCtorEq, ne_eq]; done) | (simp [fTold, b2, c6, c7, c10, c16, c18, b21, c24, eq_true c27]; done), by rfl⟩)
        · replace hr20 : r20 = 1 := by rw [hr20, b21]; rfl
          subst hr20
          refine lv_if_ne (tgt := 161) hx hb dX3_told_136 (by decide) (fun _ => ?_) (fun c29 => absurd c29 (by decide))
          refine lv_aload_n hx hb dX3_told_161 rfl (lv_at hl 1 rfl) ?_
          refine va_get (D := D) (ci := 4) (v := .ref (mH ad 1)) (C := RX3) (T := TX3) (N := 19) hx hb hts iwX3 hown hK hP 0 rfl rfl 5 (by decide) (hts (.fieldLink RX3 20 "ObjectRowsModel" "numbers" "[I") (by decide +kernel)) (fun _ h9 => h9) rfl dX3_told_162 ?_
          refine lv_iload_n hx hb dX3_told_165 rfl (lv_at hl 2 rfl) ?_
          refine va_iald hx hb hK hP 2 0 rfl rfl (hv o b2).1 dX3_told_166 ?_
          refine lv_topi (fun y30 ey30 => ?_)
          obtain rfl : y30 = mNu t o := ey30
          refine lv_goto (tgt := 171) hx hb dX3_told_167 (by decide) ?_
          refine W.widen (k := 0) (n := 0) (by omega) (by omega) ?_
          exact weI (wf := fun u : MS => mW Y ad u) (mSetThr t 0) hx hb hr hlocks hP hD hS dX3_told_171 (⟨by first | (simp only [fTold, b2, c6, c7, c10, c16, c18, b21, decide_true, decide_false, Bool.not_true, Bool.not_false, Bool.and_true, Bool.true_and, Bool.and_false, Bool.false_and, Bool.or_true, Bool.true_or, Bool.or_false, Bool.false_or, Bool.and_self, Bool.or_self, if_true, if_false, ite_true, ite_false, Bool.false_eq_true, reduceIte, not_true_eq_false, not_false_eq_true, and_true, true_and, and_false, false_and, or_true, true_or, or_false, false_or, and_self, or_self, eq_self, decide_eq_true_eq, Bool.true_eq_false, reduceCtorEq, ne_eq]; done) | (simp [fTold, b2, c6, c7, c10, c16, c18, b21]; done), by rfl⟩)
      by_cases c31 : w = 4
      · refine lv_tableIn (off := 139) (tgt := 172) hx hb dX3_told_33 (by rw [c31]; decide) (by rw [c31]; decide) (by rw [c31]; decide) (by decide) ?_
        refine lv_iload_n hx hb dX3_told_172 rfl (lv_at hl 0 rfl) ?_
        refine lv_if_eq (tgt := 190) hx hb dX3_told_173 (by decide) (fun _ => ?_) (fun c32 => absurd (by decide) c32)
        refine lv_iconst (v := 0) hx hb dX3_told_190 (by decide) ?_
        refine W.widen (k := 0) (n := 0) (by omega) (by omega) ?_
        exact weI (wf := fun u : MS => mW Y ad u) (mSetThr t 0) hx hb hr hlocks hP hD hS dX3_told_191 (⟨by first | (simp only [fTold, b2, c6, c7, c10, c16, c18, c31, decide_true, decide_false, Bool.not_true, Bool.not_false, Bool.and_true, Bool.true_and, Bool.and_false, Bool.false_and, Bool.or_true, Bool.true_or, Bool.or_false, Bool.false_or, Bool.and_self, Bool.or_self, if_true, if_false, ite_true, ite_false, Bool.false_eq_true, reduceIte, not_true_eq_false, not_false_eq_true, and_true, true_and, and_false, false_and, or_true, true_or, or_false, false_or, and_self, or_self, eq_self, decide_eq_true_eq, Bool.true_eq_false, reduceCtorEq, ne_eq]; done) | (simp [fTold, b2, c6, c7, c10, c16, c18, c31]; done), by rfl⟩)
      refine lv_tableD (tgt := 192) hx hb dX3_told_33 (tblD (ks := [0, 1, 2, 3, 4]) (by decide) (List.forall_mem_cons.mpr ⟨neI c7 (by decide), (List.forall_mem_cons.mpr ⟨neI c10 (by decide), (List.forall_mem_cons.mpr ⟨neI c16 (by decide), (List.forall_mem_cons.mpr ⟨neI c18 (by decide), (List.forall_mem_cons.mpr ⟨neI c31 (by decide), (fun _ h => absurd h List.not_mem_nil)⟩)⟩)⟩)⟩)⟩) (by decide)) (by decide) ?_
      refine lv_bipush (v := (-2)) hx hb dX3_told_192 (by decide) ?_
      refine W.widen (k := 0) (n := 0) (by omega) (by omega) ?_
      exact weI (wf := fun u : MS => mW Y ad u) (mSetThr t 0) hx hb hr hlocks hP hD hS dX3_told_194 (⟨by first | (simp only [fTold, b2, c6, c7, c10, c16, c18, c31, decide_true, decide_false, Bool.not_true, Bool.not_false, Bool.and_true, Bool.true_and, Bool.and_false, Bool.false_and, Bool.or_true, Bool.true_or, Bool.or_false, Bool.false_or, Bool.and_self, Bool.or_self, if_true, if_false, ite_true, ite_false, Bool.false_eq_true, reduceIte, not_true_eq_false, not_false_eq_true, and_true, true_and, and_false, false_and, or_true, true_or, or_false, false_or, and_self, or_self, eq_self, decide_eq_true_eq, Bool.true_eq_false, reduceCtorEq, ne_eq]; done) | (simp [fTold, b2, c6, c7, c10, c16, c18, c31]; done), by rfl⟩)
    · skip
      refine lv_iconst (v := 1) hx hb dX3_told_26 (by decide) ?_
      refine lv_goto (tgt := 31) hx hb dX3_told_27 (by decide) ?_
      refine lv_istore_n (lv' := [(3, .int 1), (0, .ref (mO ad)), (1, .int o), (2, .int w)]) hx hb dX3_told_31 rfl hl (by decide) rfl (fun ls hl => ?_)
      refine lv_iload_n hx hb dX3_told_32 rfl (lv_at hl 3 rfl) ?_
      by_cases c33 : w = 0
      · refine lv_tableIn (off := 35) (tgt := 68) hx hb dX3_told_33 (by rw [c33]; decide) (by rw [c33]; decide) (by rw [c33]; decide) (by decide) ?_
        refine lv_aload_n hx hb dX3_told_68 rfl (lv_at hl 1 rfl) ?_
        refine va_get (D := D) (ci := 4) (v := .ref (mH ad 5)) (C := RX3) (T := TX3) (N := 19) hx hb hts iwX3 hown hK hP 0 rfl rfl 9 (by decide) (hts (.fieldLink RX3 33 "ObjectRowsModel" "executable" "[Z") (by decide +kernel)) (fun _ h9 => h9) rfl dX3_told_69 ?_
        refine lv_iload_n hx hb dX3_told_72 rfl (lv_at hl 2 rfl) ?_
        refine va_zald hx hb hK hP 6 2 rfl rfl (in400 (hv o b2).1) dX3_told_73 ?_
        refine lv_topi (fun y34 ey34 => ?_)
        obtain rfl : y34 = mEx t o := ey34
        refine lv_if_eq (tgt := 81) hx hb dX3_told_74 (by decide) (fun c35 => ?_) (fun c35 => ?_)
        · skip
          refine lv_iconst (v := 0) hx hb dX3_told_81 (by decide) ?_
          refine W.widen (k := 0) (n := 0) (by omega) (by omega) ?_
          exact weI (wf := fun u : MS => mW Y ad u) (mSetThr t 0) hx hb hr hlocks hP hD hS dX3_told_82 (⟨by first | (simp only [fTold, b2, c6, c33, c35, decide_true, decide_false, Bool.not_true, Bool.not_false, Bool.and_true, Bool.true_and, Bool.and_false, Bool.false_and, Bool.or_true, Bool.true_or, Bool.or_false, Bool.false_or, Bool.and_self, Bool.or_self, if_true, if_false, ite_true, ite_false, Bool.false_eq_true, reduceIte, not_true_eq_false, not_false_eq_true, and_true, true_and, and_false, false_and, or_true, true_or, or_false, false_or, and_self, or_self, eq_self, decide_eq_true_eq, Bool.true_eq_false, reduceCtorEq, ne_eq]; done) | (simp [fTold, b2, c6, c33, c35]; done) | (simp only [fTold, b2, eq_true c6, c33, eq_true c35, decide_true, decide_false, Bool.not_true, Bool.not_false, Bool.and_true, Bool.true_and, Bool.and_false, Bool.false_and, Bool.or_true, Bool.true_or, Bool.or_false, Bool.false_or, Bool.and_self, Bool.or_self, if_true, if_false, ite_true, ite_false, Bool.false_eq_true, reduceIte, not_true_eq_false, not_false_eq_true, and_true, true_and, and_false, false_and, or_true, true_or, or_false, false_or, and_self, or_self, eq_self, decide_eq_true_eq, Bool.true_eq_false, reduceCtorEq, ne_eq]; done) | (simp [fTold, b2, eq_true c6, c33, eq_true c35]; done), by rfl⟩)
        · skip
          refine lv_iconst (v := 1) hx hb dX3_told_77 (by decide) ?_
          refine lv_goto (tgt := 82) hx hb dX3_told_78 (by decide) ?_
          refine W.widen (k := 0) (n := 0) (by omega) (by omega) ?_
          exact weI (wf := fun u : MS => mW Y ad u) (mSetThr t 0) hx hb hr hlocks hP hD hS dX3_told_82 (⟨by first | (simp only [fTold, b2, c6, c33, c35, decide_true, decide_false, Bool.not_true, Bool.not_false, Bool.and_true, Bool.true_and, Bool.and_false, Bool.false_and, Bool.or_true, Bool.true_or, Bool.or_false, Bool.false_or, Bool.and_self, Bool.or_self, if_true, if_false, ite_true, ite_false, Bool.false_eq_true, reduceIte, not_true_eq_false, not_false_eq_true, and_true, true_and, and_false, false_and, or_true, true_or, or_false, false_or, and_self, or_self, eq_self, decide_eq_true_eq, Bool.true_eq_false, reduceCtorEq, ne_eq]; done) | (simp [fTold, b2, c6, c33, c35]; done) | (simp only [fTold, b2, eq_true c6, c33, c35, decide_true, decide_false, Bool.not_true, Bool.not_false, Bool.and_true, Bool.true_and, Bool.and_false, Bool.false_and, Bool.or_true, Bool.true_or, Bool.or_false, Bool.false_or, Bool.and_self, Bool.or_self, if_true, if_false, ite_true, ite_false, Bool.false_eq_true, reduceIte, not_true_eq_false, not_false_eq_true, and_true, true_and, and_false, false_and, or_true, true_or, or_false, false_or, and_self, or_self, eq_self, decide_eq_true_eq, Bool.true_eq_false, reduceCtorEq, ne_eq]; done) | (simp [fTold, b2, eq_true c6, c33, c35]; done), by rfl⟩)
      by_cases c36 : w = 1
      · refine lv_tableIn (off := 50) (tgt := 83) hx hb dX3_told_33 (by rw [c36]; decide) (by rw [c36]; decide) (by rw [c36]; decide) (by decide) ?_
        refine lv_aload_n hx hb dX3_told_83 rfl (lv_at hl 1 rfl) ?_
        refine lv_iload_n hx hb dX3_told_84 rfl (lv_at hl 2 rfl) ?_
        refine rcI (As := [.int o]) (rest := []) ⟨hx, hb, hml, hown, hts⟩ (c_X3_hasAccess l D Y ad (mSetThr t 0) o (hv o b2).1) (cwV 1 hts gX3_told_X3_hasAccess rfl rfl rfl hdX3_hasAccess ⟨Nat.le_of_ble_eq_true rfl, Nat.le_of_ble_eq_true rfl⟩) hP hK 0 4 rfl rfl rfl hl.1 rfl (Nat.le_of_ble_eq_true rfl) dX3_told_85 ⟨(Nat.zero_le _), (Nat.zero_le _)⟩ (fun r37 hr37 => ?_)
        replace hr37 : r37 = bI (qHasAcc t o) := hr37
        cases b38 : qHasAcc t o
        · replace hr37 : r37 = 0 := by rw [hr37, b38]; rfl
          subst hr37
          refine lv_if_eq (tgt := 99) hx hb dX3_told_88 (by decide) (fun _ => ?_) (fun c39 => absurd (by decide) c39)
          refine lv_iconst (v := 0) hx hb dX3_told_99 (by decide) ?_
          refine W.widen (k := 0) (n := 0) (by omega) (by omega) ?_
          exact weI (wf := fun u : MS => mW Y ad u) (mSetThr t 0) hx hb hr hlocks hP hD hS dX3_told_100 (⟨by first | (simp only [fTold, b2, c6, c33, c36, b38, decide_true, decide_false, Bool.not_true, Bool.not_false, Bool.and_true, Bool.true_and, Bool.and_false, Bool.false_and, Bool.or_true, Bool.true_or, Bool.or_false, Bool.false_or, Bool.and_self, Bool.or_self, if_true, if_false, ite_true, ite_false, Bool.false_eq_true, reduceIte, not_true_eq_false, not_false_eq_true, and_true, true_and, and_false, false_and, or_true, true_or, or_false, false_or, and_self, or_self, eq_self, decide_eq_true_eq, Bool.true_eq_false, reduceCtorEq, ne_eq]; done) | (simp [fTold, b2, c6, c33, c36, b38]; done) | (simp only [fTold, b2, eq_true c6, c33, c36, b38, decide_true, decide_false, Bool.not_true, Bool.not_false, Bool.and_true, Bool.true_and, Bool.and_false, Bool.false_and, Bool.or_true, Bool.true_or, Bool.or_false, Bool.false_or, Bool.and_self, Bool.or_self, if_true, if_false, ite_true, ite_false, Bool.false_eq_true, reduceIte, not_true_eq_false, not_false_eq_true, and_true, true_and, and_false, false_and, or_true, true_or, or_false, false_or, and_self, or_self, eq_self, decide_eq_true_eq, Bool.true_eq_false, reduceCtorEq, ne_eq]; done) | (simp [fTold, b2, eq_true c6, c33, c36, b38]; done), by rfl⟩)
        · replace hr37 : r37 = 1 := by rw [hr37, b38]; rfl
          subst hr37
          refine lv_if_eq (tgt := 99) hx hb dX3_told_88 (by decide) (fun c40 => absurd c40 (by decide)) (fun _ => ?_)
          refine lv_aload_n hx hb dX3_told_91 rfl (lv_at hl 1 rfl) ?_
          refine lv_iload_n hx hb dX3_told_92 rfl (lv_at hl 2 rfl) ?_
          refine rcI (As := [.int o]) (rest := []) ⟨hx, hb, hml, hown, hts⟩ (c_X3_accessOf l D Y ad (mSetThr t 0) o (hv o b2).1 (hv o b2).2.1) (cwV 1 hts gX3_told_X3_accessOf rfl rfl rfl hdX3_accessOf ⟨Nat.le_of_ble_eq_true rfl, Nat.le_of_ble_eq_true rfl⟩) hP hK 0 4 rfl rfl rfl hl.1 rfl (Nat.le_of_ble_eq_true rfl) dX3_told_93 ⟨(Nat.zero_le _), (Nat.zero_le _)⟩ (fun r41 hr41 => ?_)
          obtain rfl : r41 = qAcc t o := hr41
          refine lv_goto (tgt := 100) hx hb dX3_told_96 (by decide) ?_
          refine W.widen (k := 0) (n := 0) (by omega) (by omega) ?_
          exact weI (wf := fun u : MS => mW Y ad u) (mSetThr t 0) hx hb hr hlocks hP hD hS dX3_told_100 (⟨by first | (simp only [fTold, b2, c6, c33, c36, b38, decide_true, decide_false, Bool.not_true, Bool.not_false, Bool.and_true, Bool.true_and, Bool.and_false, Bool.false_and, Bool.or_true, Bool.true_or, Bool.or_false, Bool.false_or, Bool.and_self, Bool.or_self, if_true, if_false, ite_true, ite_false, Bool.false_eq_true, reduceIte, not_true_eq_false, not_false_eq_true, and_true, true_and, and_false, false_and, or_true, true_or, or_false, false_or, and_self, or_self, eq_self, decide_eq_true_eq, Bool.true_eq_false, reduceCtorEq, ne_eq]; done) | (simp [fTold, b2, c6, c33, c36, b38]; done) | (simp only [fTold, b2, eq_true c6, c33, c36, b38, decide_true, decide_false, Bool.not_true, Bool.not_false, Bool.and_true, Bool.true_and, Bool.and_false, Bool.false_and, Bool.or_true, Bool.true_or, Bool.or_false, Bool.false_or, Bool.and_self, Bool.or_self, if_true, if_false, ite_true, ite_false, Bool.false_eq_true, reduceIte, not_true_eq_false, not_false_eq_true, and_true, true_and, and_false, false_and, or_true, true_or, or_false, false_or, and_self, or_self, eq_self, decide_eq_true_eq, Bool.true_eq_false, reduceCtorEq, ne_eq]; done) | (simp [fTold, b2, eq_true c6, c33, c36, b38]; done), by rfl⟩)
      by_cases c42 : w = 2
      · refine lv_tableIn (off := 68) (tgt := 101) hx hb dX3_told_33 (by rw [c42]; decide) (by rw [c42]; decide) (by rw [c42]; decide) (by decide) ?_
        refine lv_iload_n hx hb dX3_told_101 rfl (lv_at hl 0 rfl) ?_
        refine lv_if_eq (tgt := 123) hx hb dX3_told_102 (by decide) (fun c43 => absurd c43 (by decide)) (fun _ => ?_)
        refine lv_aload_n hx hb dX3_told_105 rfl (lv_at hl 1 rfl) ?_
        refine va_get (D := D) (ci := 4) (v := .ref (mH ad 9)) (C := RX3) (T := TX3) (N := 19) hx hb hts iwX3 hown hK hP 0 rfl rfl 13 (by decide) (hts (.fieldLink RX3 46 "ObjectRowsModel" "grows" "[Z") (by decide +kernel)) (fun _ h9 => h9) rfl dX3_told_106 ?_
        refine lv_aload_n hx hb dX3_told_109 rfl (lv_at hl 1 rfl) ?_
        refine va_get (D := D) (ci := 4) (v := .ref (mH ad 1)) (C := RX3) (T := TX3) (N := 19) hx hb hts iwX3 hown hK hP 0 rfl rfl 5 (by decide) (hts (.fieldLink RX3 20 "ObjectRowsModel" "numbers" "[I") (by decide +kernel)) (fun _ h9 => h9) rfl dX3_told_110 ?_
        refine lv_iload_n hx hb dX3_told_113 rfl (lv_at hl 2 rfl) ?_
        refine va_iald hx hb hK hP 2 0 rfl rfl (hv o b2).1 dX3_told_114 ?_
        refine lv_topi (fun y44 ey44 => ?_)
        obtain rfl : y44 = mNu t o := ey44
        refine va_zald hx hb hK hP 10 2 rfl rfl ((hv o b2).2.2.2.2.2 c6).1 dX3_told_115 ?_
        refine lv_topi (fun y45 ey45 => ?_)
        obtain rfl : y45 = mGr t (mNu t o) := ey45
        refine lv_if_eq (tgt := 123) hx hb dX3_told_116 (by decide) (fun c46 => ?_) (fun c46 => ?_)
        · skip
          refine lv_iconst (v := 0) hx hb dX3_told_123 (by decide) ?_
          refine W.widen (k := 0) (n := 0) (by omega) (by omega) ?_
          exact weI (wf := fun u : MS => mW Y ad u) (mSetThr t 0) hx hb hr hlocks hP hD hS dX3_told_124 (⟨by first | (simp only [fTold, b2, c6, c33, c36, c42, c46, decide_true, decide_false, Bool.not_true, Bool.not_false, Bool.and_true, Bool.true_and, Bool.and_false, Bool.false_and, Bool.or_true, Bool.true_or, Bool.or_false, Bool.false_or, Bool.and_self, Bool.or_self, if_true, if_false, ite_true, ite_false, Bool.false_eq_true, reduceIte, not_true_eq_false, not_false_eq_true, and_true, true_and, and_false, false_and, or_true, true_or, or_false, false_or, and_self, or_self, eq_self, decide_eq_true_eq, Bool.true_eq_false, reduceCtorEq, ne_eq]; done) | (simp [fTold, b2, c6, c33, c36, c42, c46]; done) | (simp only [fTold, b2, eq_true c6, c33, c36, c42, eq_true c46, decide_true, decide_false, Bool.not_true, Bool.not_false, Bool.and_true, Bool.true_and, Bool.and_false, Bool.false_and, Bool.or_true, Bool.true_or, Bool.or_false, Bool.false_or, Bool.and_self, Bool.or_self, if_true, if_false, ite_true, ite_false, Bool.false_eq_true, reduceIte, not_true_eq_false, not_false_eq_true, and_true, true_and, and_false, false_and, or_true, true_or, or_false, false_or, and_self, or_self, eq_self, decide_eq_true_eq, Bool.true_eq_false, reduceCtorEq, ne_eq]; done) | (simp [fTold, b2, eq_true c6, c33, c36, c42, eq_true c46]; done), by rfl⟩)
        · skip
          refine lv_iconst (v := 1) hx hb dX3_told_119 (by decide) ?_
          refine lv_goto (tgt := 124) hx hb dX3_told_120 (by decide) ?_
          refine W.widen (k := 0) (n := 0) (by omega) (by omega) ?_
          exact weI (wf := fun u : MS => mW Y ad u) (mSetThr t 0) hx hb hr hlocks hP hD hS dX3_told_124 (⟨by first | (simp only [fTold, b2, c6, c33, c36, c42, c46, decide_true, decide_false, Bool.not_true, Bool.not_false, Bool.and_true, Bool.true_and, Bool.and_false, Bool.false_and, Bool.or_true, Bool.true_or, Bool.or_false, Bool.false_or, Bool.and_self, Bool.or_self, if_true, if_false, ite_true, ite_false, Bool.false_eq_true, reduceIte, not_true_eq_false, not_false_eq_true, and_true, true_and, and_false, false_and, or_true, true_or, or_false, false_or, and_self, or_self, eq_self, decide_eq_true_eq, Bool.true_eq_false, reduceCtorEq, ne_eq]; done) | (simp [fTold, b2, c6, c33, c36, c42, c46]; done) | (simp only [fTold, b2, eq_true c6, c33, c36, c42, c46, decide_true, decide_false, Bool.not_true, Bool.not_false, Bool.and_true, Bool.true_and, Bool.and_false, Bool.false_and, Bool.or_true, Bool.true_or, Bool.or_false, Bool.false_or, Bool.and_self, Bool.or_self, if_true, if_false, ite_true, ite_false, Bool.false_eq_true, reduceIte, not_true_eq_false, not_false_eq_true, and_true, true_and, and_false, false_and, or_true, true_or, or_false, false_or, and_self, or_self, eq_self, decide_eq_true_eq, Bool.true_eq_false, reduceCtorEq, ne_eq]; done) | (simp [fTold, b2, eq_true c6, c33, c36, c42, c46]; done), by rfl⟩)
      by_cases c47 : w = 3
      · refine lv_tableIn (off := 92) (tgt := 125) hx hb dX3_told_33 (by rw [c47]; decide) (by rw [c47]; decide) (by rw [c47]; decide) (by decide) ?_
        refine lv_aload_n hx hb dX3_told_125 rfl (lv_at hl 1 rfl) ?_
        refine va_get (D := D) (ci := 4) (v := .ref (mH ad 0)) (C := RX3) (T := TX3) (N := 19) hx hb hts iwX3 hown hK hP 0 rfl rfl 4 (by decide) (hts (.fieldLink RX3 16 "ObjectRowsModel" "kinds" "[I") (by decide +kernel)) (fun _ h9 => h9) rfl dX3_told_126 ?_
        refine lv_iload_n hx hb dX3_told_129 rfl (lv_at hl 2 rfl) ?_
        refine va_iald hx hb hK hP 1 0 rfl rfl (hv o b2).1 dX3_told_130 ?_
        refine lv_topi (fun y48 ey48 => ?_)
        obtain rfl : y48 = mK t o := ey48
        refine lv_iconst (v := 1) hx hb dX3_told_131 (by decide) ?_
        refine lv_iconst (v := 3) hx hb dX3_told_132 (by decide) ?_
        refine scI (As := [.int (mK t o), .int 1, .int 3]) (rest := []) ⟨hx, hb, hml, hown, hts⟩ (c_X3_within l (mK t o) 1 3) (va_cwS 3 hts gX3_told_X3_within rfl rfl rfl hdX3_within ⟨Nat.le_of_ble_eq_true rfl, Nat.le_of_ble_eq_true rfl⟩) rfl hl.1 rfl (Nat.le_of_ble_eq_true rfl) dX3_told_133 ⟨(Nat.zero_le _), (Nat.zero_le _)⟩ (fun r49 hr49 => ?_)
        replace hr49 : r49 = bI (qWithin (mK t o) 1 3) := hr49
        cases b50 : qWithin (mK t o) 1 3
        · replace hr49 : r49 = 0 := by rw [hr49, b50]; rfl
          subst hr49
          refine lv_if_ne (tgt := 161) hx hb dX3_told_136 (by decide) (fun c51 => absurd (by decide) c51) (fun _ => ?_)
          refine lv_aload_n hx hb dX3_told_139 rfl (lv_at hl 1 rfl) ?_
          refine va_get (D := D) (ci := 4) (v := .ref (mH ad 0)) (C := RX3) (T := TX3) (N := 19) hx hb hts iwX3 hown hK hP 0 rfl rfl 4 (by decide) (hts (.fieldLink RX3 16 "ObjectRowsModel" "kinds" "[I") (by decide +kernel)) (fun _ h9 => h9) rfl dX3_told_140 ?_
          refine lv_iload_n hx hb dX3_told_143 rfl (lv_at hl 2 rfl) ?_
          refine va_iald hx hb hK hP 1 0 rfl rfl (hv o b2).1 dX3_told_144 ?_
          refine lv_topi (fun y52 ey52 => ?_)
          obtain rfl : y52 = mK t o := ey52
          refine lv_bipush (v := 9) hx hb dX3_told_145 (by decide) ?_
          refine lv_icmp_eq (tgt := 161) hx hb dX3_told_147 (by decide) (fun c53 => ?_) (fun c53 => ?_)
          · skip
            refine lv_aload_n hx hb dX3_told_161 rfl (lv_at hl 1 rfl) ?_
            refine va_get (D := D) (ci := 4) (v := .ref (mH ad 1)) (C := RX3) (T := TX3) (N := 19) hx hb hts iwX3 hown hK hP 0 rfl rfl 5 (by decide) (hts (.fieldLink RX3 20 "ObjectRowsModel" "numbers" "[I") (by decide +kernel)) (fun _ h9 => h9) rfl dX3_told_162 ?_
            refine lv_iload_n hx hb dX3_told_165 rfl (lv_at hl 2 rfl) ?_
            refine va_iald hx hb hK hP 2 0 rfl rfl (hv o b2).1 dX3_told_166 ?_
            refine lv_topi (fun y54 ey54 => ?_)
            obtain rfl : y54 = mNu t o := ey54
            refine lv_goto (tgt := 171) hx hb dX3_told_167 (by decide) ?_
            refine W.widen (k := 0) (n := 0) (by omega) (by omega) ?_
            exact weI (wf := fun u : MS => mW Y ad u) (mSetThr t 0) hx hb hr hlocks hP hD hS dX3_told_171 (⟨by first | (simp only [fTold, b2, c6, c33, c36, c42, c47, b50, c53, decide_true, decide_false, Bool.not_true, Bool.not_false, Bool.and_true, Bool.true_and, Bool.and_false, Bool.false_and, Bool.or_true, Bool.true_or, Bool.or_false, Bool.false_or, Bool.and_self, Bool.or_self, if_true, if_false, ite_true, ite_false, Bool.false_eq_true, reduceIte, not_true_eq_false, not_false_eq_true, and_true, true_and, and_false, false_and, or_true, true_or, or_false, false_or, and_self, or_self, eq_self, decide_eq_true_eq, Bool.true_eq_false, reduceCtorEq, ne_eq]; done) | (simp [fTold, b2, c6, c33, c36, c42, c47, b50, c53]; done) | (simp only [fTold, b2, eq_true c6, c33, c36, c42, c47, b50, eq_true c53, decide_true, decide_false, Bool.not_true, Bool.not_false, Bool.and_true, Bool.true_and, Bool.and_false, Bool.false_and, Bool.or_true, Bool.true_or, Bool.or_false, Bool.false_or, Bool.and_self, Bool.or_self, if_true, if_false, ite_true, ite_false, Bool.false_eq_true, reduceIte, not_true_eq_false, not_false_eq_true, and_true, true_and, and_false, false_and, or_true, true_or, or_false, false_or, and_self, or_self, eq_self, decide_eq_true_eq, Bool.true_eq_false, reduceCtorEq, ne_eq]; done) | (simp [fTold, b2, eq_true c6, c33, c36, c42, c47, b50, eq_true c53]; done), by rfl⟩)
          · skip
            refine lv_aload_n hx hb dX3_told_150 rfl (lv_at hl 1 rfl) ?_
            refine va_get (D := D) (ci := 4) (v := .ref (mH ad 0)) (C := RX3) (T := TX3) (N := 19) hx hb hts iwX3 hown hK hP 0 rfl rfl 4 (by decide) (hts (.fieldLink RX3 16 "ObjectRowsModel" "kinds" "[I") (by decide +kernel)) (fun _ h9 => h9) rfl dX3_told_151 ?_
            refine lv_iload_n hx hb dX3_told_154 rfl (lv_at hl 2 rfl) ?_
            refine va_iald hx hb hK hP 1 0 rfl rfl (hv o b2).1 dX3_told_155 ?_
            refine lv_topi (fun y55 ey55 => ?_)
            obtain rfl : y55 = mK t o := ey55
            refine lv_bipush (v := 10) hx hb dX3_told_156 (by decide) ?_
            refine lv_icmp_ne (tgt := 170) hx hb dX3_told_158 (by decide) (fun c56 => ?_) (fun c56 => ?_)
            · skip
              refine lv_iconst (v := 0) hx hb dX3_told_170 (by decide) ?_
              refine W.widen (k := 0) (n := 0) (by omega) (by omega) ?_
              exact weI (wf := fun u : MS => mW Y ad u) (mSetThr t 0) hx hb hr hlocks hP hD hS dX3_told_171 (⟨by first | (simp only [fTold, b2, c6, c33, c36, c42, c47, b50, c53, c56, decide_true, decide_false, Bool.not_true, Bool.not_false, Bool.and_true, Bool.true_and, Bool.and_false, Bool.false_and, Bool.or_true, Bool.true_or, Bool.or_false, Bool.false_or, Bool.and_self, Bool.or_self, if_true, if_false, ite_true, ite_false, Bool.false_eq_true, reduceIte, not_true_eq_false, not_false_eq_true, and_true, true_and, and_false, false_and, or_true, true_or, or_false, false_or, and_self, or_self, eq_self, decide_eq_true_eq, Bool.true_eq_false, reduceCtorEq, ne_eq]; done) | (simp [fTold, b2, c6, c33, c36, c42, c47, b50, c53, c56]; done) | (simp only [fTold, b2, eq_true c6, c33, c36, c42, c47, b50, c53, c56, decide_true, decide_false, Bool.not_true, Bool.not_false, Bool.and_true, Bool.true_and, Bool.and_false, Bool.false_and, Bool.or_true, Bool.true_or, Bool.or_false, Bool.false_or, Bool.and_self, Bool.or_self, if_true, if_false, ite_true, ite_false, Bool.false_eq_true, reduceIte, not_true_eq_false, not_false_eq_true, and_true, true_and, and_false, false_and, or_true, true_or, or_false, false_or, and_self, or_self, eq_self, decide_eq_true_eq, Bool.true_eq_false, reduceCtorEq, ne_eq]; done) | (simp [fTold, b2, eq_true c6, c33, c36, c42, c47, b50, c53, c56]; done), by rfl⟩)
            · skip
              refine lv_aload_n hx hb dX3_told_161 rfl (lv_at hl 1 rfl) ?_
              refine va_get (D := D) (ci := 4) (v := .ref (mH ad 1)) (C := RX3) (T := TX3) (N := 19) hx hb hts iwX3 hown hK hP 0 rfl rfl 5 (by decide) (hts (.fieldLink RX3 20 "ObjectRowsModel" "numbers" "[I") (by decide +kernel)) (fun _ h9 => h9) rfl dX3_told_162 ?_
              refine lv_iload_n hx hb dX3_told_165 rfl (lv_at hl 2 rfl) ?_
              refine va_iald hx hb hK hP 2 0 rfl rfl (hv o b2).1 dX3_told_166 ?_
              refine lv_topi (fun y57 ey57 => ?_)
              obtain rfl : y57 = mNu t o := ey57
              refine lv_goto (tgt := 171) hx hb dX3_told_167 (by decide) ?_
              refine W.widen (k := 0) (n := 0) (by omega) (by omega) ?_
              exact weI (wf := fun u : MS => mW Y ad u) (mSetThr t 0) hx hb hr hlocks hP hD hS dX3_told_171 (⟨by first | (simp only [fTold, b2, c6, c33, c36, c42, c47, b50, c53, c56, decide_true, decide_false, Bool.not_true, Bool.not_false, Bool.and_true, Bool.true_and, Bool.and_false, Bool.false_and, Bool.or_true, Bool.true_or, Bool.or_false, Bool.false_or, Bool.and_self, Bool.or_self, if_true, if_false, ite_true, ite_false, Bool.false_eq_true, reduceIte, not_true_eq_false, not_false_eq_true, and_true, true_and, and_false, false_and, or_true, true_or, or_false, false_or, and_self, or_self, eq_self, decide_eq_true_eq, Bool.true_eq_false, reduceCtorEq, ne_eq]; done) | (simp [fTold, b2, c6, c33, c36, c42, c47, b50, c53, c56]; done) | (simp only [fTold, b2, eq_true c6, c33, c36, c42, c47, b50, c53, eq_true c56, decide_true, decide_false, Bool.not_true, Bool.not_false, Bool.and_true, Bool.true_and, Bool.and_false, Bool.false_and, Bool.or_true, Bool.true_or, Bool.or_false, Bool.false_or, Bool.and_self, Bool.or_self, if_true, if_false, ite_true, ite_false, Bool.false_eq_true, reduceIte, not_true_eq_false, not_false_eq_true, and_true, true_and, and_false, false_and, or_true, true_or, or_false, false_or, and_self, or_self, eq_self, decide_eq_true_eq, Bool.true_eq_false, reduceCtorEq, ne_eq]; done) | (simp [fTold, b2, eq_true c6, c33, c36, c42, c47, b50, c53, eq_true c56]; done), by rfl⟩)
        · replace hr49 : r49 = 1 := by rw [hr49, b50]; rfl
          subst hr49
          refine lv_if_ne (tgt := 161) hx hb dX3_told_136 (by decide) (fun _ => ?_) (fun c58 => absurd c58 (by decide))
          refine lv_aload_n hx hb dX3_told_161 rfl (lv_at hl 1 rfl) ?_
          refine va_get (D := D) (ci := 4) (v := .ref (mH ad 1)) (C := RX3) (T := TX3) (N := 19) hx hb hts iwX3 hown hK hP 0 rfl rfl 5 (by decide) (hts (.fieldLink RX3 20 "ObjectRowsModel" "numbers" "[I") (by decide +kernel)) (fun _ h9 => h9) rfl dX3_told_162 ?_
          refine lv_iload_n hx hb dX3_told_165 rfl (lv_at hl 2 rfl) ?_
          refine va_iald hx hb hK hP 2 0 rfl rfl (hv o b2).1 dX3_told_166 ?_
          refine lv_topi (fun y59 ey59 => ?_)
          obtain rfl : y59 = mNu t o := ey59
          refine lv_goto (tgt := 171) hx hb dX3_told_167 (by decide) ?_
          refine W.widen (k := 0) (n := 0) (by omega) (by omega) ?_
          exact weI (wf := fun u : MS => mW Y ad u) (mSetThr t 0) hx hb hr hlocks hP hD hS dX3_told_171 (⟨by first | (simp only [fTold, b2, c6, c33, c36, c42, c47, b50, decide_true, decide_false, Bool.not_true, Bool.not_false, Bool.and_true, Bool.true_and, Bool.and_false, Bool.false_and, Bool.or_true, Bool.true_or, Bool.or_false, Bool.false_or, Bool.and_self, Bool.or_self, if_true, if_false, ite_true, ite_false, Bool.false_eq_true, reduceIte, not_true_eq_false, not_false_eq_true, and_true, true_and, and_false, false_and, or_true, true_or, or_false, false_or, and_self, or_self, eq_self, decide_eq_true_eq, Bool.true_eq_false, reduceCtorEq, ne_eq]; done) | (simp [fTold, b2, c6, c33, c36, c42, c47, b50]; done) | (simp only [fTold, b2, eq_true c6, c33, c36, c42, c47, b50, decide_true, decide_false, Bool.not_true, Bool.not_false, Bool.and_true, Bool.true_and, Bool.and_false, Bool.false_and, Bool.or_true, Bool.true_or, Bool.or_false, Bool.false_or, Bool.and_self, Bool.or_self, if_true, if_false, ite_true, ite_false, Bool.false_eq_true, reduceIte, not_true_eq_false, not_false_eq_true, and_true, true_and, and_false, false_and, or_true, true_or, or_false, false_or, and_self, or_self, eq_self, decide_eq_true_eq, Bool.true_eq_false, reduceCtorEq, ne_eq]; done) | (simp [fTold, b2, eq_true c6, c33, c36, c42, c47, b50]; done), by rfl⟩)
      by_cases c60 : w = 4
      · refine lv_tableIn (off := 139) (tgt := 172) hx hb dX3_told_33 (by rw [c60]; decide) (by rw [c60]; decide) (by rw [c60]; decide) (by decide) ?_
        refine lv_iload_n hx hb dX3_told_172 rfl (lv_at hl 0 rfl) ?_
        refine lv_if_eq (tgt := 190) hx hb dX3_told_173 (by decide) (fun c61 => absurd c61 (by decide)) (fun _ => ?_)
        refine lv_aload_n hx hb dX3_told_176 rfl (lv_at hl 1 rfl) ?_
        refine va_get (D := D) (ci := 4) (v := .ref (mH ad 8)) (C := RX3) (T := TX3) (N := 19) hx hb hts iwX3 hown hK hP 0 rfl rfl 12 (by decide) (hts (.fieldLink RX3 43 "ObjectRowsModel" "capacities" "[I") (by decide +kernel)) (fun _ h9 => h9) rfl dX3_told_177 ?_
        refine lv_aload_n hx hb dX3_told_180 rfl (lv_at hl 1 rfl) ?_
        refine va_get (D := D) (ci := 4) (v := .ref (mH ad 1)) (C := RX3) (T := TX3) (N := 19) hx hb hts iwX3 hown hK hP 0 rfl rfl 5 (by decide) (hts (.fieldLink RX3 20 "ObjectRowsModel" "numbers" "[I") (by decide +kernel)) (fun _ h9 => h9) rfl dX3_told_181 ?_
        refine lv_iload_n hx hb dX3_told_184 rfl (lv_at hl 2 rfl) ?_
        refine va_iald hx hb hK hP 2 0 rfl rfl (hv o b2).1 dX3_told_185 ?_
        refine lv_topi (fun y62 ey62 => ?_)
        obtain rfl : y62 = mNu t o := ey62
        refine va_iald hx hb hK hP 9 0 rfl rfl ((hv o b2).2.2.2.2.2 c6).1 dX3_told_186 ?_
        refine lv_topi (fun y63 ey63 => ?_)
        obtain rfl : y63 = mCp t (mNu t o) := ey63
        refine lv_goto (tgt := 191) hx hb dX3_told_187 (by decide) ?_
        refine W.widen (k := 0) (n := 0) (by omega) (by omega) ?_
        exact weI (wf := fun u : MS => mW Y ad u) (mSetThr t 0) hx hb hr hlocks hP hD hS dX3_told_191 (⟨by first | (simp only [fTold, b2, c6, c33, c36, c42, c47, c60, decide_true, decide_false, Bool.not_true, Bool.not_false, Bool.and_true, Bool.true_and, Bool.and_false, Bool.false_and, Bool.or_true, Bool.true_or, Bool.or_false, Bool.false_or, Bool.and_self, Bool.or_self, if_true, if_false, ite_true, ite_false, Bool.false_eq_true, reduceIte, not_true_eq_false, not_false_eq_true, and_true, true_and, and_false, false_and, or_true, true_or, or_false, false_or, and_self, or_self, eq_self, decide_eq_true_eq, Bool.true_eq_false, reduceCtorEq, ne_eq]; done) | (simp [fTold, b2, c6, c33, c36, c42, c47, c60]; done) | (simp only [fTold, b2, eq_true c6, c33, c36, c42, c47, c60, decide_true, decide_false, Bool.not_true, Bool.not_false, Bool.and_true, Bool.true_and, Bool.and_false, Bool.false_and, Bool.or_true, Bool.true_or, Bool.or_false, Bool.false_or, Bool.and_self, Bool.or_self, if_true, if_false, ite_true, ite_false, Bool.false_eq_true, reduceIte, not_true_eq_false, not_false_eq_true, and_true, true_and, and_false, false_and, or_true, true_or, or_false, false_or, and_self, or_self, eq_self, decide_eq_true_eq, Bool.true_eq_false, reduceCtorEq, ne_eq]; done) | (simp [fTold, b2, eq_true c6, c33, c36, c42, c47, c60]; done), by rfl⟩)
      refine lv_tableD (tgt := 192) hx hb dX3_told_33 (tblD (ks := [0, 1, 2, 3, 4]) (by decide) (List.forall_mem_cons.mpr ⟨neI c33 (by decide), (List.forall_mem_cons.mpr ⟨neI c36 (by decide), (List.forall_mem_cons.mpr ⟨neI c42 (by decide), (List.forall_mem_cons.mpr ⟨neI c47 (by decide), (List.forall_mem_cons.mpr ⟨neI c60 (by decide), (fun _ h => absurd h List.not_mem_nil)⟩)⟩)⟩)⟩)⟩) (by decide)) (by decide) ?_
      refine lv_bipush (v := (-2)) hx hb dX3_told_192 (by decide) ?_
      refine W.widen (k := 0) (n := 0) (by omega) (by omega) ?_
      exact weI (wf := fun u : MS => mW Y ad u) (mSetThr t 0) hx hb hr hlocks hP hD hS dX3_told_194 (⟨by first | (simp only [fTold, b2, c6, c33, c36, c42, c47, c60, decide_true, decide_false, Bool.not_true, Bool.not_false, Bool.and_true, Bool.true_and, Bool.and_false, Bool.false_and, Bool.or_true, Bool.true_or, Bool.or_false, Bool.false_or, Bool.and_self, Bool.or_self, if_true, if_false, ite_true, ite_false, Bool.false_eq_true, reduceIte, not_true_eq_false, not_false_eq_true, and_true, true_and, and_false, false_and, or_true, true_or, or_false, false_or, and_self, or_self, eq_self, decide_eq_true_eq, Bool.true_eq_false, reduceCtorEq, ne_eq]; done) | (simp [fTold, b2, c6, c33, c36, c42, c47, c60]; done) | (simp only [fTold, b2, eq_true c6, c33, c36, c42, c47, c60, decide_true, decide_false, Bool.not_true, Bool.not_false, Bool.and_true, Bool.true_and, Bool.and_false, Bool.false_and, Bool.or_true, Bool.true_or, Bool.or_false, Bool.false_or, Bool.and_self, Bool.or_self, if_true, if_false, ite_true, ite_false, Bool.false_eq_true, reduceIte, not_true_eq_false, not_false_eq_true, and_true, true_and, and_false, false_and, or_true, true_or, or_false, false_or, and_self, or_self, eq_self, decide_eq_true_eq, Bool.true_eq_false, reduceCtorEq, ne_eq]; done) | (simp [fTold, b2, eq_true c6, c33, c36, c42, c47, c60]; done), by rfl⟩)
theorem hdX3_told : yX3_told.cls = RX3 ∧ yX3_told.cls ≠ "java/lang/invoke/MethodHandle" ∧ yX3_told.cls ≠ "java/lang/invoke/VarHandle" ∧ (parseMethodDescriptor yX3_told.desc).map (fun d => d.parameters.length) = some 2 := by decide +kernel
set_option maxHeartbeats 4000000 in
set_option maxRecDepth 100000 in
theorem c_X3_compare (l : Launch) (D : va_G) (Y : Nat → ClassId) (ad : MA) (t : MS) (sz : Nat) (a : Int32) (b : Int32) (hv : ∀ o, qObj t o = true → mV t o) : Met l yX3_compare wsX3_compare ({ frames := 2, cells := 0, slots := 0, locals := 47 }) (wrPc D Y [.ref (mO ad), .int a, .int b] (mW Y ad t) sz) (va_Qi (fun (ans : Int32) (u : MS) => ans = fCompare t a b ∧ u = mSetThr t 0) (wrB D (va_A (mW Y ad t) sz) (fun u : MS => mW Y ad u)) (va_A (mW Y ad t) sz)) (0) (0) (va_A (mW Y ad t) sz) := by
  refine wrOf (Qc := fun A => va_Qi (fun (ans : Int32) (u : MS) => ans = fCompare t a b ∧ u = mSetThr t 0) (wrB D A (fun u : MS => mW Y ad u)) A) (cc := cX3_compare) (maxL := 3) (ret := (some .int)) (own := RX3) (by decide) rfl rfl (Nat.le_of_ble_eq_true rfl) ?_
  intro p e s m below meth c ls A hx hb hr hts hown hml hlocks hin hA hP hD hS hK hl
  have iwX3 : ∀ w ∈ u_ws RX3 TX3 19, w ∈ wsX3_compare := fun _ h => List.mem_cons_of_mem _ (List.mem_append_right _ h)
  have hl : lv_has ls 3 [(0, .ref (mO ad)), (1, .int a), (2, .int b)] := hl
  have hS : va_S A s.heap s.heap [] := hS
  refine lv_aload_n hx hb dX3_compare_0 rfl (lv_at hl 0 rfl) ?_
  refine lv_iconst (v := 0) hx hb dX3_compare_1 (by decide) ?_
  refine mFput0 (ad := ad) hx hb hts iwX3 hown hK hP hD hS (hts (.fieldLink RX3 65 "ObjectRowsModel" "thrown" "I") (by decide +kernel)) dX3_compare_2 (fun H locs hP hD hS => ?_)
  refine lv_aload_n hx hb dX3_compare_5 rfl (lv_at hl 0 rfl) ?_
  refine lv_iload_n hx hb dX3_compare_6 rfl (lv_at hl 1 rfl) ?_
  refine rcI (As := [.int a]) (rest := []) ⟨hx, hb, hml, hown, hts⟩ (c_X3_isObject l D Y ad (mSetThr t 0) a ) (cwV 1 hts gX3_compare_X3_isObject rfl rfl rfl hdX3_isObject ⟨Nat.le_of_ble_eq_true rfl, Nat.le_of_ble_eq_true rfl⟩) hP hK 0 4 rfl rfl rfl hl.1 rfl (Nat.le_of_ble_eq_true rfl) dX3_compare_7 ⟨(Nat.zero_le _), (Nat.zero_le _)⟩ (fun r1 hr1 => ?_)
  replace hr1 : r1 = bI (qObj t a) := hr1
  cases b2 : qObj t a
  · replace hr1 : r1 = 0 := by rw [hr1, b2]; rfl
    subst hr1
    refine lv_if_eq (tgt := 21) hx hb dX3_compare_10 (by decide) (fun _ => ?_) (fun c3 => absurd (by decide) c3)
    refine lv_iconst (v := (-1)) hx hb dX3_compare_21 (by decide) ?_
    refine W.widen (k := 0) (n := 0) (by omega) (by omega) ?_
    exact weI (wf := fun u : MS => mW Y ad u) (mSetThr t 0) hx hb hr hlocks hP hD hS dX3_compare_22 (⟨by first | (simp only [fCompare, b2, decide_true, decide_false, Bool.not_true, Bool.not_false, Bool.and_true, Bool.true_and, Bool.and_false, Bool.false_and, Bool.or_true, Bool.true_or, Bool.or_false, Bool.false_or, Bool.and_self, Bool.or_self, if_true, if_false, ite_true, ite_false, Bool.false_eq_true, reduceIte, not_true_eq_false, not_false_eq_true, and_true, true_and, and_false, false_and, or_true, true_or, or_false, false_or, and_self, or_self, eq_self, decide_eq_true_eq, Bool.true_eq_false, reduceCtorEq, ne_eq]; done) | (simp [fCompare, b2]; done), by rfl⟩)
  · replace hr1 : r1 = 1 := by rw [hr1, b2]; rfl
    subst hr1
    refine lv_if_eq (tgt := 21) hx hb dX3_compare_10 (by decide) (fun c4 => absurd c4 (by decide)) (fun _ => ?_)
    refine lv_aload_n hx hb dX3_compare_13 rfl (lv_at hl 0 rfl) ?_
    refine lv_iload_n hx hb dX3_compare_14 rfl (lv_at hl 2 rfl) ?_
    refine rcI (As := [.int b]) (rest := []) ⟨hx, hb, hml, hown, hts⟩ (c_X3_isObject l D Y ad (mSetThr t 0) b ) (cwV 1 hts gX3_compare_X3_isObject rfl rfl rfl hdX3_isObject ⟨Nat.le_of_ble_eq_true rfl, Nat.le_of_ble_eq_true rfl⟩) hP hK 0 4 rfl rfl rfl hl.1 rfl (Nat.le_of_ble_eq_true rfl) dX3_compare_15 ⟨(Nat.zero_le _), (Nat.zero_le _)⟩ (fun r5 hr5 => ?_)
    replace hr5 : r5 = bI (qObj t b) := hr5
    cases b6 : qObj t b
    · replace hr5 : r5 = 0 := by rw [hr5, b6]; rfl
      subst hr5
      refine lv_if_ne (tgt := 23) hx hb dX3_compare_18 (by decide) (fun c7 => absurd (by decide) c7) (fun _ => ?_)
      refine lv_iconst (v := (-1)) hx hb dX3_compare_21 (by decide) ?_
      refine W.widen (k := 0) (n := 0) (by omega) (by omega) ?_
      exact weI (wf := fun u : MS => mW Y ad u) (mSetThr t 0) hx hb hr hlocks hP hD hS dX3_compare_22 (⟨by first | (simp only [fCompare, b2, b6, decide_true, decide_false, Bool.not_true, Bool.not_false, Bool.and_true, Bool.true_and, Bool.and_false, Bool.false_and, Bool.or_true, Bool.true_or, Bool.or_false, Bool.false_or, Bool.and_self, Bool.or_self, if_true, if_false, ite_true, ite_false, Bool.false_eq_true, reduceIte, not_true_eq_false, not_false_eq_true, and_true, true_and, and_false, false_and, or_true, true_or, or_false, false_or, and_self, or_self, eq_self, decide_eq_true_eq, Bool.true_eq_false, reduceCtorEq, ne_eq]; done) | (simp [fCompare, b2, b6]; done), by rfl⟩)
    · replace hr5 : r5 = 1 := by rw [hr5, b6]; rfl
      subst hr5
      refine lv_if_ne (tgt := 23) hx hb dX3_compare_18 (by decide) (fun _ => ?_) (fun c8 => absurd c8 (by decide))
      refine lv_aload_n hx hb dX3_compare_23 rfl (lv_at hl 0 rfl) ?_
      refine va_get (D := D) (ci := 4) (v := .ref (mH ad 0)) (C := RX3) (T := TX3) (N := 19) hx hb hts iwX3 hown hK hP 0 rfl rfl 4 (by decide) (hts (.fieldLink RX3 16 "ObjectRowsModel" "kinds" "[I") (by decide +kernel)) (fun _ h9 => h9) rfl dX3_compare_24 ?_
      refine lv_iload_n hx hb dX3_compare_27 rfl (lv_at hl 1 rfl) ?_
      refine va_iald hx hb hK hP 1 0 rfl rfl (hv a b2).1 dX3_compare_28 ?_
      refine lv_topi (fun y9 ey9 => ?_)
      obtain rfl : y9 = mK t a := ey9
      refine lv_iconst (v := 1) hx hb dX3_compare_29 (by decide) ?_
      refine lv_icmp_ne (tgt := 83) hx hb dX3_compare_30 (by decide) (fun c10 => ?_) (fun c10 => ?_)
      · skip
        refine lv_aload_n hx hb dX3_compare_83 rfl (lv_at hl 0 rfl) ?_
        refine va_get (D := D) (ci := 4) (v := .ref (mH ad 0)) (C := RX3) (T := TX3) (N := 19) hx hb hts iwX3 hown hK hP 0 rfl rfl 4 (by decide) (hts (.fieldLink RX3 16 "ObjectRowsModel" "kinds" "[I") (by decide +kernel)) (fun _ h9 => h9) rfl dX3_compare_84 ?_
        refine lv_iload_n hx hb dX3_compare_87 rfl (lv_at hl 1 rfl) ?_
        refine va_iald hx hb hK hP 1 0 rfl rfl (hv a b2).1 dX3_compare_88 ?_
        refine lv_topi (fun y11 ey11 => ?_)
        obtain rfl : y11 = mK t a := ey11
        refine lv_iconst (v := 4) hx hb dX3_compare_89 (by decide) ?_
        refine lv_icmp_ne (tgt := 121) hx hb dX3_compare_90 (by decide) (fun c12 => ?_) (fun c12 => ?_)
        · skip
          refine lv_bipush (v := (-3)) hx hb dX3_compare_121 (by decide) ?_
          refine W.widen (k := 0) (n := 0) (by omega) (by omega) ?_
          exact weI (wf := fun u : MS => mW Y ad u) (mSetThr t 0) hx hb hr hlocks hP hD hS dX3_compare_123 (⟨by first | (simp only [fCompare, b2, b6, c10, c12, decide_true, decide_false, Bool.not_true, Bool.not_false, Bool.and_true, Bool.true_and, Bool.and_false, Bool.false_and, Bool.or_true, Bool.true_or, Bool.or_false, Bool.false_or, Bool.and_self, Bool.or_self, if_true, if_false, ite_true, ite_false, Bool.false_eq_true, reduceIte, not_true_eq_false, not_false_eq_true, and_true, true_and, and_false, false_and, or_true, true_or, or_false, false_or, and_self, or_self, eq_self, decide_eq_true_eq, Bool.true_eq_false, reduceCtorEq, ne_eq]; done) | (simp [fCompare, b2, b6, c10, c12]; done), by rfl⟩)
        · skip
          refine lv_aload_n hx hb dX3_compare_93 rfl (lv_at hl 0 rfl) ?_
          refine va_get (D := D) (ci := 4) (v := .ref (mH ad 0)) (C := RX3) (T := TX3) (N := 19) hx hb hts iwX3 hown hK hP 0 rfl rfl 4 (by decide) (hts (.fieldLink RX3 16 "ObjectRowsModel" "kinds" "[I") (by decide +kernel)) (fun _ h9 => h9) rfl dX3_compare_94 ?_
          refine lv_iload_n hx hb dX3_compare_97 rfl (lv_at hl 2 rfl) ?_
          refine va_iald hx hb hK hP 1 0 rfl rfl (hv b b6).1 dX3_compare_98 ?_
          refine lv_topi (fun y13 ey13 => ?_)
          obtain rfl : y13 = mK t b := ey13
          refine lv_iconst (v := 4) hx hb dX3_compare_99 (by decide) ?_
          refine lv_icmp_ne (tgt := 121) hx hb dX3_compare_100 (by decide) (fun c14 => ?_) (fun c14 => ?_)
          · skip
            refine lv_bipush (v := (-3)) hx hb dX3_compare_121 (by decide) ?_
            refine W.widen (k := 0) (n := 0) (by omega) (by omega) ?_
            exact weI (wf := fun u : MS => mW Y ad u) (mSetThr t 0) hx hb hr hlocks hP hD hS dX3_compare_123 (⟨by first | (simp only [fCompare, b2, b6, c10, c12, c14, decide_true, decide_false, Bool.not_true, Bool.not_false, Bool.and_true, Bool.true_and, Bool.and_false, Bool.false_and, Bool.or_true, Bool.true_or, Bool.or_false, Bool.false_or, Bool.and_self, Bool.or_self, if_true, if_false, ite_true, ite_false, Bool.false_eq_true, reduceIte, not_true_eq_false, not_false_eq_true, and_true, true_and, and_false, false_and, or_true, true_or, or_false, false_or, and_self, or_self, eq_self, decide_eq_true_eq, Bool.true_eq_false, reduceCtorEq, ne_eq]; done) | (simp [fCompare, b2, b6, c10, c12, c14]; done) | (simp only [fCompare, b2, b6, c10, eq_true c12, c14, decide_true, decide_false, Bool.not_true, Bool.not_false, Bool.and_true, Bool.true_and, Bool.and_false, Bool.false_and, Bool.or_true, Bool.true_or, Bool.or_false, Bool.false_or, Bool.and_self, Bool.or_self, if_true, if_false, ite_true, ite_false, Bool.false_eq_true, reduceIte, not_true_eq_false, not_false_eq_true, and_true, true_and, and_false, false_and, or_true, true_or, or_false, false_or, and_self, or_self, eq_self, decide_eq_true_eq, Bool.true_eq_false, reduceCtorEq, ne_eq]; done) | (simp [fCompare, b2, b6, c10, eq_true c12, c14]; done), by rfl⟩)
          · skip
            refine lv_aload_n hx hb dX3_compare_103 rfl (lv_at hl 0 rfl) ?_
            refine lv_iload_n hx hb dX3_compare_104 rfl (lv_at hl 1 rfl) ?_
            refine rcI (As := [.int a]) (rest := []) ⟨hx, hb, hml, hown, hts⟩ (c_X3_accessOf l D Y ad (mSetThr t 0) a (hv a b2).1 (hv a b2).2.1) (cwV 1 hts gX3_compare_X3_accessOf rfl rfl rfl hdX3_accessOf ⟨Nat.le_of_ble_eq_true rfl, Nat.le_of_ble_eq_true rfl⟩) hP hK 0 4 rfl rfl rfl hl.1 rfl (Nat.le_of_ble_eq_true rfl) dX3_compare_105 ⟨(Nat.zero_le _), (Nat.zero_le _)⟩ (fun r15 hr15 => ?_)
            obtain rfl : r15 = qAcc t a := hr15
            refine lv_iconst (v := 2) hx hb dX3_compare_108 (by decide) ?_
            refine lv_icmp_lt (tgt := 121) hx hb dX3_compare_109 (by decide) (fun c16 => ?_) (fun c16 => ?_)
            · skip
              refine lv_bipush (v := (-3)) hx hb dX3_compare_121 (by decide) ?_
              refine W.widen (k := 0) (n := 0) (by omega) (by omega) ?_
              exact weI (wf := fun u : MS => mW Y ad u) (mSetThr t 0) hx hb hr hlocks hP hD hS dX3_compare_123 (⟨by first | (simp only [fCompare, b2, b6, c10, c12, c14, c16, decide_true, decide_false, Bool.not_true, Bool.not_false, Bool.and_true, Bool.true_and, Bool.and_false, Bool.false_and, Bool.or_true, Bool.true_or, Bool.or_false, Bool.false_or, Bool.and_self, Bool.or_self, if_true, if_false, ite_true, ite_false, Bool.false_eq_true, reduceIte, not_true_eq_false, not_false_eq_true, and_true, true_and, and_false, false_and, or_true, true_or, or_false, false_or, and_self, or_self, eq_self, decide_eq_true_eq, Bool.true_eq_false, reduceCtorEq, ne_eq]; done) | (simp [fCompare, b2, b6, c10, c12, c14, c16, Int32.not_le.mpr c16]; done) | (simp only [fCompare, b2, b6, c10, eq_true c12, eq_true c14, c16, decide_true, decide_false, Bool.not_true, Bool.not_false, Bool.and_true, Bool.true_and, Bool.and_false, Bool.false_and, Bool.or_true, Bool.true_or, Bool.or_false, Bool.false_or, Bool.and_self, Bool.or_self, if_true, if_false, ite_true, ite_false, Bool.false_eq_true, reduceIte, not_true_eq_false, not_false_eq_true, and_true, true_and, and_false, false_and, or_true, true_or, or_false, false_or, and_self, or_self, eq_self, decide_eq_true_eq, Bool.true_eq_false, reduceCtorEq, ne_eq]; done) | (simp [fCompare, b2, b6, c10, eq_true c12, eq_true c14, c16, Int32.not_le.mpr c16]; done), by rfl⟩)
            · skip
              refine lv_aload_n hx hb dX3_compare_112 rfl (lv_at hl 0 rfl) ?_
              refine lv_iload_n hx hb dX3_compare_113 rfl (lv_at hl 2 rfl) ?_
              refine rcI (As := [.int b]) (rest := []) ⟨hx, hb, hml, hown, hts⟩ (c_X3_accessOf l D Y ad (mSetThr t 0) b (hv b b6).1 (hv b b6).2.1) (cwV 1 hts gX3_compare_X3_accessOf rfl rfl rfl hdX3_accessOf ⟨Nat.le_of_ble_eq_true rfl, Nat.le_of_ble_eq_true rfl⟩) hP hK 0 4 rfl rfl rfl hl.1 rfl (Nat.le_of_ble_eq_true rfl) dX3_compare_114 ⟨(Nat.zero_le _), (Nat.zero_le _)⟩ (fun r17 hr17 => ?_)
              obtain rfl : r17 = qAcc t b := hr17
              refine lv_iconst (v := 2) hx hb dX3_compare_117 (by decide) ?_
              refine lv_icmp_ge (tgt := 124) hx hb dX3_compare_118 (by decide) (fun c18 => ?_) (fun c18 => ?_)
              · skip
                refine lv_iconst (v := 1) hx hb dX3_compare_124 (by decide) ?_
                refine lv_aload_n hx hb dX3_compare_125 rfl (lv_at hl 0 rfl) ?_
                refine lv_iload_n hx hb dX3_compare_126 rfl (lv_at hl 1 rfl) ?_
                refine lv_iload_n hx hb dX3_compare_127 rfl (lv_at hl 2 rfl) ?_
                refine rcI (As := [.int a, .int b]) (rest := [.int 1]) ⟨hx, hb, hml, hown, hts⟩ (c_X3_order l D Y ad (mSetThr t 0) a b (hv a b2).1 (hv b b6).1 ((hv a b2).2.2.1 c12) ((hv b b6).2.2.1 c14)) (cwV 2 hts gX3_compare_X3_order rfl rfl rfl hdX3_order ⟨Nat.le_of_ble_eq_true rfl, Nat.le_of_ble_eq_true rfl⟩) hP hK 0 4 rfl rfl rfl hl.1 rfl (Nat.le_of_ble_eq_true rfl) dX3_compare_128 ⟨(Nat.zero_le _), (Nat.zero_le _)⟩ (fun r19 hr19 => ?_)
                replace hr19 := hr19.trans (qOrd_cg (t := t) rfl rfl rfl rfl)
                obtain rfl : r19 = qOrd t a b := hr19
                refine lv_iadd hx hb dX3_compare_131 ?_
                refine W.widen (k := 0) (n := 0) (by omega) (by omega) ?_
                exact weI (wf := fun u : MS => mW Y ad u) (mSetThr t 0) hx hb hr hlocks hP hD hS dX3_compare_132 (⟨by first | (simp only [fCompare, b2, b6, c10, c12, c14, c16, c18, decide_true, decide_false, Bool.not_true, Bool.not_false, Bool.and_true, Bool.true_and, Bool.and_false, Bool.false_and, Bool.or_true, Bool.true_or, Bool.or_false, Bool.false_or, Bool.and_self, Bool.or_self, if_true, if_false, ite_true, ite_false, Bool.false_eq_true, reduceIte, not_true_eq_false, not_false_eq_true, and_true, true_and, and_false, false_and, or_true, true_or, or_false, false_or, and_self, or_self, eq_self, decide_eq_true_eq, Bool.true_eq_false, reduceCtorEq, ne_eq]; done) | (simp [fCompare, b2, b6, c10, c12, c14, c16, c18, Int32.not_lt.mp c16, Int32.not_lt.mpr c18]; done) | (simp only [fCompare, b2, b6, c10, eq_true c12, eq_true c14, c16, c18, decide_true, decide_false, Bool.not_true, Bool.not_false, Bool.and_true, Bool.true_and, Bool.and_false, Bool.false_and, Bool.or_true, Bool.true_or, Bool.or_false, Bool.false_or, Bool.and_self, Bool.or_self, if_true, if_false, ite_true, ite_false, Bool.false_eq_true, reduceIte, not_true_eq_false, not_false_eq_true, and_true, true_and, and_false, false_and, or_true, true_or, or_false, false_or, and_self, or_self, eq_self, decide_eq_true_eq, Bool.true_eq_false, reduceCtorEq, ne_eq]; done) | (simp [fCompare, b2, b6, c10, eq_true c12, eq_true c14, c16, c18, Int32.not_lt.mp c16, Int32.not_lt.mpr c18]; done), by rfl⟩)
              · skip
                refine lv_bipush (v := (-3)) hx hb dX3_compare_121 (by decide) ?_
                refine W.widen (k := 0) (n := 0) (by omega) (by omega) ?_
                exact weI (wf := fun u : MS => mW Y ad u) (mSetThr t 0) hx hb hr hlocks hP hD hS dX3_compare_123 (⟨by first | (simp only [fCompare, b2, b6, c10, c12, c14, c16, c18, decide_true, decide_false, Bool.not_true, Bool.not_false, Bool.and_true, Bool.true_and, Bool.and_false, Bool.false_and, Bool.or_true, Bool.true_or, Bool.or_false, Bool.false_or, Bool.and_self, Bool.or_self, if_true, if_false, ite_true, ite_false, Bool.false_eq_true, reduceIte, not_true_eq_false, not_false_eq_true, and_true, true_and, and_false, false_and, or_true, true_or, or_false, false_or, and_self, or_self, eq_self, decide_eq_true_eq, Bool.true_eq_false, reduceCtorEq, ne_eq]; done) | (simp [fCompare, b2, b6, c10, c12, c14, c16, c18, Int32.not_lt.mp c16, Int32.not_le.mp c18]; done) | (simp only [fCompare, b2, b6, c10, eq_true c12, eq_true c14, c16, c18, decide_true, decide_false, Bool.not_true, Bool.not_false, Bool.and_true, Bool.true_and, Bool.and_false, Bool.false_and, Bool.or_true, Bool.true_or, Bool.or_false, Bool.false_or, Bool.and_self, Bool.or_self, if_true, if_false, ite_true, ite_false, Bool.false_eq_true, reduceIte, not_true_eq_false, not_false_eq_true, and_true, true_and, and_false, false_and, or_true, true_or, or_false, false_or, and_self, or_self, eq_self, decide_eq_true_eq, Bool.true_eq_false, reduceCtorEq, ne_eq]; done) | (simp [fCompare, b2, b6, c10, eq_true c12, eq_true c14, c16, c18, Int32.not_lt.mp c16, Int32.not_le.mp c18]; done), by rfl⟩)
      · skip
        refine lv_aload_n hx hb dX3_compare_33 rfl (lv_at hl 0 rfl) ?_
        refine va_get (D := D) (ci := 4) (v := .ref (mH ad 0)) (C := RX3) (T := TX3) (N := 19) hx hb hts iwX3 hown hK hP 0 rfl rfl 4 (by decide) (hts (.fieldLink RX3 16 "ObjectRowsModel" "kinds" "[I") (by decide +kernel)) (fun _ h9 => h9) rfl dX3_compare_34 ?_
        refine lv_iload_n hx hb dX3_compare_37 rfl (lv_at hl 2 rfl) ?_
        refine va_iald hx hb hK hP 1 0 rfl rfl (hv b b6).1 dX3_compare_38 ?_
        refine lv_topi (fun y20 ey20 => ?_)
        obtain rfl : y20 = mK t b := ey20
        refine lv_iconst (v := 1) hx hb dX3_compare_39 (by decide) ?_
        refine lv_icmp_ne (tgt := 83) hx hb dX3_compare_40 (by decide) (fun c21 => ?_) (fun c21 => ?_)
        · skip
          refine lv_aload_n hx hb dX3_compare_83 rfl (lv_at hl 0 rfl) ?_
          refine va_get (D := D) (ci := 4) (v := .ref (mH ad 0)) (C := RX3) (T := TX3) (N := 19) hx hb hts iwX3 hown hK hP 0 rfl rfl 4 (by decide) (hts (.fieldLink RX3 16 "ObjectRowsModel" "kinds" "[I") (by decide +kernel)) (fun _ h9 => h9) rfl dX3_compare_84 ?_
          refine lv_iload_n hx hb dX3_compare_87 rfl (lv_at hl 1 rfl) ?_
          refine va_iald hx hb hK hP 1 0 rfl rfl (hv a b2).1 dX3_compare_88 ?_
          refine lv_topi (fun y22 ey22 => ?_)
          obtain rfl : y22 = mK t a := ey22
          refine lv_iconst (v := 4) hx hb dX3_compare_89 (by decide) ?_
          refine lv_icmp_ne (tgt := 121) hx hb dX3_compare_90 (by decide) (fun c23 => ?_) (fun c23 => ?_)
          · skip
            refine lv_bipush (v := (-3)) hx hb dX3_compare_121 (by decide) ?_
            refine W.widen (k := 0) (n := 0) (by omega) (by omega) ?_
            exact weI (wf := fun u : MS => mW Y ad u) (mSetThr t 0) hx hb hr hlocks hP hD hS dX3_compare_123 (⟨by first | (simp only [fCompare, b2, b6, c10, c21, c23, decide_true, decide_false, Bool.not_true, Bool.not_false, Bool.and_true, Bool.true_and, Bool.and_false, Bool.false_and, Bool.or_true, Bool.true_or, Bool.or_false, Bool.false_or, Bool.and_self, Bool.or_self, if_true, if_false, ite_true, ite_false, Bool.false_eq_true, reduceIte, not_true_eq_false, not_false_eq_true, and_true, true_and, and_false, false_and, or_true, true_or, or_false, false_or, and_self, or_self, eq_self, decide_eq_true_eq, Bool.true_eq_false, reduceCtorEq, ne_eq]; done) | (simp [fCompare, b2, b6, c10, c21, c23]; done) | (simp only [fCompare, b2, b6, eq_true c10, c21, c23, decide_true, decide_false, Bool.not_true, Bool.not_false, Bool.and_true, Bool.true_and, Bool.and_false, Bool.false_and, Bool.or_true, Bool.true_or, Bool.or_false, Bool.false_or, Bool.and_self, Bool.or_self, if_true, if_false, ite_true, ite_false, Bool.false_eq_true, reduceIte, not_true_eq_false, not_false_eq_true, and_true, true_and, and_false, false_and, or_true, true_or, or_false, false_or, and_self, or_self, eq_self, decide_eq_true_eq, Bool.true_eq_false, reduceCtorEq, ne_eq]; done) | (simp [fCompare, b2, b6, eq_true c10, c21, c23]; done), by rfl⟩)
          · skip
            refine lv_aload_n hx hb dX3_compare_93 rfl (lv_at hl 0 rfl) ?_
            refine va_get (D := D) (ci := 4) (v := .ref (mH ad 0)) (C := RX3) (T := TX3) (N := 19) hx hb hts iwX3 hown hK hP 0 rfl rfl 4 (by decide) (hts (.fieldLink RX3 16 "ObjectRowsModel" "kinds" "[I") (by decide +kernel)) (fun _ h9 => h9) rfl dX3_compare_94 ?_
            refine lv_iload_n hx hb dX3_compare_97 rfl (lv_at hl 2 rfl) ?_
            refine va_iald hx hb hK hP 1 0 rfl rfl (hv b b6).1 dX3_compare_98 ?_
            refine lv_topi (fun y24 ey24 => ?_)
            obtain rfl : y24 = mK t b := ey24
            refine lv_iconst (v := 4) hx hb dX3_compare_99 (by decide) ?_
            refine lv_icmp_ne (tgt := 121) hx hb dX3_compare_100 (by decide) (fun c25 => ?_) (fun c25 => ?_)
            · skip
              refine lv_bipush (v := (-3)) hx hb dX3_compare_121 (by decide) ?_
              refine W.widen (k := 0) (n := 0) (by omega) (by omega) ?_
              exact weI (wf := fun u : MS => mW Y ad u) (mSetThr t 0) hx hb hr hlocks hP hD hS dX3_compare_123 (⟨by first | (simp only [fCompare, b2, b6, c10, c21, c23, c25, decide_true, decide_false, Bool.not_true, Bool.not_false, Bool.and_true, Bool.true_and, Bool.and_false, Bool.false_and, Bool.or_true, Bool.true_or, Bool.or_false, Bool.false_or, Bool.and_self, Bool.or_self, if_true, if_false, ite_true, ite_false, Bool.false_eq_true, reduceIte, not_true_eq_false, not_false_eq_true, and_true, true_and, and_false, false_and, or_true, true_or, or_false, false_or, and_self, or_self, eq_self, decide_eq_true_eq, Bool.true_eq_false, reduceCtorEq, ne_eq]; done) | (simp [fCompare, b2, b6, c10, c21, c23, c25]; done) | (simp only [fCompare, b2, b6, eq_true c10, c21, eq_true c23, c25, decide_true, decide_false, Bool.not_true, Bool.not_false, Bool.and_true, Bool.true_and, Bool.and_false, Bool.false_and, Bool.or_true, Bool.true_or, Bool.or_false, Bool.false_or, Bool.and_self, Bool.or_self, if_true, if_false, ite_true, ite_false, Bool.false_eq_true, reduceIte, not_true_eq_false, not_false_eq_true, and_true, true_and, and_false, false_and, or_true, true_or, or_false, false_or, and_self, or_self, eq_self, decide_eq_true_eq, Bool.true_eq_false, reduceCtorEq, ne_eq]; done) | (simp [fCompare, b2, b6, eq_true c10, c21, eq_true c23, c25]; done), by rfl⟩)
            · skip
              refine lv_aload_n hx hb dX3_compare_103 rfl (lv_at hl 0 rfl) ?_
              refine lv_iload_n hx hb dX3_compare_104 rfl (lv_at hl 1 rfl) ?_
              refine rcI (As := [.int a]) (rest := []) ⟨hx, hb, hml, hown, hts⟩ (c_X3_accessOf l D Y ad (mSetThr t 0) a (hv a b2).1 (hv a b2).2.1) (cwV 1 hts gX3_compare_X3_accessOf rfl rfl rfl hdX3_accessOf ⟨Nat.le_of_ble_eq_true rfl, Nat.le_of_ble_eq_true rfl⟩) hP hK 0 4 rfl rfl rfl hl.1 rfl (Nat.le_of_ble_eq_true rfl) dX3_compare_105 ⟨(Nat.zero_le _), (Nat.zero_le _)⟩ (fun r26 hr26 => ?_)
              obtain rfl : r26 = qAcc t a := hr26
              refine lv_iconst (v := 2) hx hb dX3_compare_108 (by decide) ?_
              refine lv_icmp_lt (tgt := 121) hx hb dX3_compare_109 (by decide) (fun c27 => ?_) (fun c27 => ?_)
              · skip
                refine lv_bipush (v := (-3)) hx hb dX3_compare_121 (by decide) ?_
                refine W.widen (k := 0) (n := 0) (by omega) (by omega) ?_
                exact weI (wf := fun u : MS => mW Y ad u) (mSetThr t 0) hx hb hr hlocks hP hD hS dX3_compare_123 (⟨by first | (simp only [fCompare, b2, b6, c10, c21, c23, c25, c27, decide_true, decide_false, Bool.not_true, Bool.not_false, Bool.and_true, Bool.true_and, Bool.and_false, Bool.false_and, Bool.or_true, Bool.true_or, Bool.or_false, Bool.false_or, Bool.and_self, Bool.or_self, if_true, if_false, ite_true, ite_false, Bool.false_eq_true, reduceIte, not_true_eq_false, not_false_eq_true, and_true, true_and, and_false, false_and, or_true, true_or, or_false, false_or, and_self, or_self, eq_self, decide_eq_true_eq, Bool.true_eq_false, reduceCtorEq, ne_eq]; done) | (simp [fCompare, b2, b6, c10, c21, c23, c25, c27, Int32.not_le.mpr c27]; done) | (simp only [fCompare, b2, b6, eq_true c10, c21, eq_true c23, eq_true c25, c27, decide_true, decide_false, Bool.not_true, Bool.not_false, Bool.and_true, Bool.true_and, Bool.and_false, Bool.false_and, Bool.or_true, Bool.true_or, Bool.or_false, Bool.false_or, Bool.and_self, Bool.or_self, if_true, if_false, ite_true, ite_false, Bool.false_eq_true, reduceIte, not_true_eq_false, not_false_eq_true, and_true, true_and, and_false, false_and, or_true, true_or, or_false, false_or, and_self, or_self, eq_self, decide_eq_true_eq, Bool.true_eq_false, reduceCtorEq, ne_eq]; done) | (simp [fCompare, b2, b6, eq_true c10, c21, eq_true c23, eq_true c25, c27, Int32.not_le.mpr c27]; done), by rfl⟩)
              · skip
                refine lv_aload_n hx hb dX3_compare_112 rfl (lv_at hl 0 rfl) ?_
                refine lv_iload_n hx hb dX3_compare_113 rfl (lv_at hl 2 rfl) ?_
                refine rcI (As := [.int b]) (rest := []) ⟨hx, hb, hml, hown, hts⟩ (c_X3_accessOf l D Y ad (mSetThr t 0) b (hv b b6).1 (hv b b6).2.1) (cwV 1 hts gX3_compare_X3_accessOf rfl rfl rfl hdX3_accessOf ⟨Nat.le_of_ble_eq_true rfl, Nat.le_of_ble_eq_true rfl⟩) hP hK 0 4 rfl rfl rfl hl.1 rfl (Nat.le_of_ble_eq_true rfl) dX3_compare_114 ⟨(Nat.zero_le _), (Nat.zero_le _)⟩ (fun r28 hr28 => ?_)
                obtain rfl : r28 = qAcc t b := hr28
                refine lv_iconst (v := 2) hx hb dX3_compare_117 (by decide) ?_
                refine lv_icmp_ge (tgt := 124) hx hb dX3_compare_118 (by decide) (fun c29 => ?_) (fun c29 => ?_)
                · skip
                  refine lv_iconst (v := 1) hx hb dX3_compare_124 (by decide) ?_
                  refine lv_aload_n hx hb dX3_compare_125 rfl (lv_at hl 0 rfl) ?_
                  refine lv_iload_n hx hb dX3_compare_126 rfl (lv_at hl 1 rfl) ?_
                  refine lv_iload_n hx hb dX3_compare_127 rfl (lv_at hl 2 rfl) ?_
                  refine rcI (As := [.int a, .int b]) (rest := [.int 1]) ⟨hx, hb, hml, hown, hts⟩ (c_X3_order l D Y ad (mSetThr t 0) a b (hv a b2).1 (hv b b6).1 ((hv a b2).2.2.1 c23) ((hv b b6).2.2.1 c25)) (cwV 2 hts gX3_compare_X3_order rfl rfl rfl hdX3_order ⟨Nat.le_of_ble_eq_true rfl, Nat.le_of_ble_eq_true rfl⟩) hP hK 0 4 rfl rfl rfl hl.1 rfl (Nat.le_of_ble_eq_true rfl) dX3_compare_128 ⟨(Nat.zero_le _), (Nat.zero_le _)⟩ (fun r30 hr30 => ?_)
                  replace hr30 := hr30.trans (qOrd_cg (t := t) rfl rfl rfl rfl)
                  obtain rfl : r30 = qOrd t a b := hr30
                  refine lv_iadd hx hb dX3_compare_131 ?_
                  refine W.widen (k := 0) (n := 0) (by omega) (by omega) ?_
                  exact weI (wf := fun u : MS => mW Y ad u) (mSetThr t 0) hx hb hr hlocks hP hD hS dX3_compare_132 (⟨by first | (simp only [fCompare, b2, b6, c10, c21, c23, c25, c27, c29, decide_true, decide_false, Bool.not_true, Bool.not_false, Bool.and_true, Bool.true_and, Bool.and_false, Bool.false_and, Bool.or_true, Bool.true_or, Bool.or_false, Bool.false_or, Bool.and_self, Bool.or_self, if_true, if_false, ite_true, ite_false, Bool.false_eq_true, reduceIte, not_true_eq_false, not_false_eq_true, and_true, true_and, and_false, false_and, or_true, true_or, or_false, false_or, and_self, or_self, eq_self, decide_eq_true_eq, Bool.true_eq_false, reduceCtorEq, ne_eq]; done) | (simp [fCompare, b2, b6, c10, c21, c23, c25, c27, c29, Int32.not_lt.mp c27, Int32.not_lt.mpr c29]; done) | (simp only [fCompare, b2, b6, eq_true c10, c21, eq_true c23, eq_true c25, c27, c29, decide_true, decide_false, Bool.not_true, Bool.not_false, Bool.and_true, Bool.true_and, Bool.and_false, Bool.false_and, Bool.or_true, Bool.true_or, Bool.or_false, Bool.false_or, Bool.and_self, Bool.or_self, if_true, if_false, ite_true, ite_false, Bool.false_eq_true, reduceIte, not_true_eq_false, not_false_eq_true, and_true, true_and, and_false, false_and, or_true, true_or, or_false, false_or, and_self, or_self, eq_self, decide_eq_true_eq, Bool.true_eq_false, reduceCtorEq, ne_eq]; done) | (simp [fCompare, b2, b6, eq_true c10, c21, eq_true c23, eq_true c25, c27, c29, Int32.not_lt.mp c27, Int32.not_lt.mpr c29]; done), by rfl⟩)
                · skip
                  refine lv_bipush (v := (-3)) hx hb dX3_compare_121 (by decide) ?_
                  refine W.widen (k := 0) (n := 0) (by omega) (by omega) ?_
                  exact weI (wf := fun u : MS => mW Y ad u) (mSetThr t 0) hx hb hr hlocks hP hD hS dX3_compare_123 (⟨by first | (simp only [fCompare, b2, b6, c10, c21, c23, c25, c27, c29, decide_true, decide_false, Bool.not_true, Bool.not_false, Bool.and_true, Bool.true_and, Bool.and_false, Bool.false_and, Bool.or_true, Bool.true_or, Bool.or_false, Bool.false_or, Bool.and_self, Bool.or_self, if_true, if_false, ite_true, ite_false, Bool.false_eq_true, reduceIte, not_true_eq_false, not_false_eq_true, and_true, true_and, and_false, false_and, or_true, true_or, or_false, false_or, and_self, or_self, eq_self, decide_eq_true_eq, Bool.true_eq_false, reduceCtorEq, ne_eq]; done) | (simp [fCompare, b2, b6, c10, c21, c23, c25, c27, c29, Int32.not_lt.mp c27, Int32.not_le.mp c29]; done) | (simp only [fCompare, b2, b6, eq_true c10, c21, eq_true c23, eq_true c25, c27, c29, decide_true, decide_false, Bool.not_true, Bool.not_false, Bool.and_true, Bool.true_and, Bool.and_false, Bool.false_and, Bool.or_true, Bool.true_or, Bool.or_false, Bool.false_or, Bool.and_self, Bool.or_self, if_true, if_false, ite_true, ite_false, Bool.false_eq_true, reduceIte, not_true_eq_false, not_false_eq_true, and_true, true_and, and_false, false_and, or_true, true_or, or_false, false_or, and_self, or_self, eq_self, decide_eq_true_eq, Bool.true_eq_false, reduceCtorEq, ne_eq]; done) | (simp [fCompare, b2, b6, eq_true c10, c21, eq_true c23, eq_true c25, c27, c29, Int32.not_lt.mp c27, Int32.not_le.mp c29]; done), by rfl⟩)
        · skip
          refine lv_aload_n hx hb dX3_compare_43 rfl (lv_at hl 0 rfl) ?_
          refine va_get (D := D) (ci := 4) (v := .ref (mH ad 1)) (C := RX3) (T := TX3) (N := 19) hx hb hts iwX3 hown hK hP 0 rfl rfl 5 (by decide) (hts (.fieldLink RX3 20 "ObjectRowsModel" "numbers" "[I") (by decide +kernel)) (fun _ h9 => h9) rfl dX3_compare_44 ?_
          refine lv_iload_n hx hb dX3_compare_47 rfl (lv_at hl 1 rfl) ?_
          refine va_iald hx hb hK hP 2 0 rfl rfl (hv a b2).1 dX3_compare_48 ?_
          refine lv_topi (fun y31 ey31 => ?_)
          obtain rfl : y31 = mNu t a := ey31
          refine lv_aload_n hx hb dX3_compare_49 rfl (lv_at hl 0 rfl) ?_
          refine va_get (D := D) (ci := 4) (v := .ref (mH ad 1)) (C := RX3) (T := TX3) (N := 19) hx hb hts iwX3 hown hK hP 0 rfl rfl 5 (by decide) (hts (.fieldLink RX3 20 "ObjectRowsModel" "numbers" "[I") (by decide +kernel)) (fun _ h9 => h9) rfl dX3_compare_50 ?_
          refine lv_iload_n hx hb dX3_compare_53 rfl (lv_at hl 2 rfl) ?_
          refine va_iald hx hb hK hP 2 0 rfl rfl (hv b b6).1 dX3_compare_54 ?_
          refine lv_topi (fun y32 ey32 => ?_)
          obtain rfl : y32 = mNu t b := ey32
          refine lv_icmp_ge (tgt := 62) hx hb dX3_compare_55 (by decide) (fun c33 => ?_) (fun c33 => ?_)
          · skip
            refine lv_aload_n hx hb dX3_compare_62 rfl (lv_at hl 0 rfl) ?_
            refine va_get (D := D) (ci := 4) (v := .ref (mH ad 1)) (C := RX3) (T := TX3) (N := 19) hx hb hts iwX3 hown hK hP 0 rfl rfl 5 (by decide) (hts (.fieldLink RX3 20 "ObjectRowsModel" "numbers" "[I") (by decide +kernel)) (fun _ h9 => h9) rfl dX3_compare_63 ?_
            refine lv_iload_n hx hb dX3_compare_66 rfl (lv_at hl 1 rfl) ?_
            refine va_iald hx hb hK hP 2 0 rfl rfl (hv a b2).1 dX3_compare_67 ?_
            refine lv_topi (fun y34 ey34 => ?_)
            obtain rfl : y34 = mNu t a := ey34
            refine lv_aload_n hx hb dX3_compare_68 rfl (lv_at hl 0 rfl) ?_
            refine va_get (D := D) (ci := 4) (v := .ref (mH ad 1)) (C := RX3) (T := TX3) (N := 19) hx hb hts iwX3 hown hK hP 0 rfl rfl 5 (by decide) (hts (.fieldLink RX3 20 "ObjectRowsModel" "numbers" "[I") (by decide +kernel)) (fun _ h9 => h9) rfl dX3_compare_69 ?_
            refine lv_iload_n hx hb dX3_compare_72 rfl (lv_at hl 2 rfl) ?_
            refine va_iald hx hb hK hP 2 0 rfl rfl (hv b b6).1 dX3_compare_73 ?_
            refine lv_topi (fun y35 ey35 => ?_)
            obtain rfl : y35 = mNu t b := ey35
            refine lv_icmp_le (tgt := 81) hx hb dX3_compare_74 (by decide) (fun c36 => ?_) (fun c36 => ?_)
            · skip
              refine lv_iconst (v := 1) hx hb dX3_compare_81 (by decide) ?_
              refine W.widen (k := 0) (n := 0) (by omega) (by omega) ?_
              exact weI (wf := fun u : MS => mW Y ad u) (mSetThr t 0) hx hb hr hlocks hP hD hS dX3_compare_82 (⟨by first | (simp only [fCompare, b2, b6, c10, c21, c33, c36, decide_true, decide_false, Bool.not_true, Bool.not_false, Bool.and_true, Bool.true_and, Bool.and_false, Bool.false_and, Bool.or_true, Bool.true_or, Bool.or_false, Bool.false_or, Bool.and_self, Bool.or_self, if_true, if_false, ite_true, ite_false, Bool.false_eq_true, reduceIte, not_true_eq_false, not_false_eq_true, and_true, true_and, and_false, false_and, or_true, true_or, or_false, false_or, and_self, or_self, eq_self, decide_eq_true_eq, Bool.true_eq_false, reduceCtorEq, ne_eq]; done) | (simp [fCompare, b2, b6, c10, c21, c33, c36, Int32.not_lt.mpr c33, Int32.not_lt.mpr c36]; done) | (simp only [fCompare, b2, b6, eq_true c10, eq_true c21, c33, c36, decide_true, decide_false, Bool.not_true, Bool.not_false, Bool.and_true, Bool.true_and, Bool.and_false, Bool.false_and, Bool.or_true, Bool.true_or, Bool.or_false, Bool.false_or, Bool.and_self, Bool.or_self, if_true, if_false, ite_true, ite_false, Bool.false_eq_true, reduceIte, not_true_eq_false, not_false_eq_true, and_true, true_and, and_false, false_and, or_true, true_or, or_false, false_or, and_self, or_self, eq_self, decide_eq_true_eq, Bool.true_eq_false, reduceCtorEq, ne_eq]; done) | (simp [fCompare, b2, b6, eq_true c10, eq_true c21, c33, c36, Int32.not_lt.mpr c33, Int32.not_lt.mpr c36]; done), by rfl⟩)
            · skip
              refine lv_iconst (v := 2) hx hb dX3_compare_77 (by decide) ?_
              refine lv_goto (tgt := 82) hx hb dX3_compare_78 (by decide) ?_
              refine W.widen (k := 0) (n := 0) (by omega) (by omega) ?_
              exact weI (wf := fun u : MS => mW Y ad u) (mSetThr t 0) hx hb hr hlocks hP hD hS dX3_compare_82 (⟨by first | (simp only [fCompare, b2, b6, c10, c21, c33, c36, decide_true, decide_false, Bool.not_true, Bool.not_false, Bool.and_true, Bool.true_and, Bool.and_false, Bool.false_and, Bool.or_true, Bool.true_or, Bool.or_false, Bool.false_or, Bool.and_self, Bool.or_self, if_true, if_false, ite_true, ite_false, Bool.false_eq_true, reduceIte, not_true_eq_false, not_false_eq_true, and_true, true_and, and_false, false_and, or_true, true_or, or_false, false_or, and_self, or_self, eq_self, decide_eq_true_eq, Bool.true_eq_false, reduceCtorEq, ne_eq]; done) | (simp [fCompare, b2, b6, c10, c21, c33, c36, Int32.not_lt.mpr c33, Int32.not_le.mp c36]; done) | (simp only [fCompare, b2, b6, eq_true c10, eq_true c21, c33, c36, decide_true, decide_false, Bool.not_true, Bool.not_false, Bool.and_true, Bool.true_and, Bool.and_false, Bool.false_and, Bool.or_true, Bool.true_or, Bool.or_false, Bool.false_or, Bool.and_self, Bool.or_self, if_true, if_false, ite_true, ite_false, Bool.false_eq_true, reduceIte, not_true_eq_false, not_false_eq_true, and_true, true_and, and_false, false_and, or_true, true_or, or_false, false_or, and_self, or_self, eq_self, decide_eq_true_eq, Bool.true_eq_false, reduceCtorEq, ne_eq]; done) | (simp [fCompare, b2, b6, eq_true c10, eq_true c21, c33, c36, Int32.not_lt.mpr c33, Int32.not_le.mp c36]; done), by rfl⟩)
          · skip
            refine lv_iconst (v := 0) hx hb dX3_compare_58 (by decide) ?_
            refine lv_goto (tgt := 82) hx hb dX3_compare_59 (by decide) ?_
            refine W.widen (k := 0) (n := 0) (by omega) (by omega) ?_
            exact weI (wf := fun u : MS => mW Y ad u) (mSetThr t 0) hx hb hr hlocks hP hD hS dX3_compare_82 (⟨by first | (simp only [fCompare, b2, b6, c10, c21, c33, decide_true, decide_false, Bool.not_true, Bool.not_false, Bool.and_true, Bool.true_and, Bool.and_false, Bool.false_and, Bool.or_true, Bool.true_or, Bool.or_false, Bool.false_or, Bool.and_self, Bool.or_self, if_true, if_false, ite_true, ite_false, Bool.false_eq_true, reduceIte, not_true_eq_false, not_false_eq_true, and_true, true_and, and_false, false_and, or_true, true_or, or_false, false_or, and_self, or_self, eq_self, decide_eq_true_eq, Bool.true_eq_false, reduceCtorEq, ne_eq]; done) | (simp [fCompare, b2, b6, c10, c21, c33, Int32.not_le.mp c33]; done) | (simp only [fCompare, b2, b6, eq_true c10, eq_true c21, c33, decide_true, decide_false, Bool.not_true, Bool.not_false, Bool.and_true, Bool.true_and, Bool.and_false, Bool.false_and, Bool.or_true, Bool.true_or, Bool.or_false, Bool.false_or, Bool.and_self, Bool.or_self, if_true, if_false, ite_true, ite_false, Bool.false_eq_true, reduceIte, not_true_eq_false, not_false_eq_true, and_true, true_and, and_false, false_and, or_true, true_or, or_false, false_or, and_self, or_self, eq_self, decide_eq_true_eq, Bool.true_eq_false, reduceCtorEq, ne_eq]; done) | (simp [fCompare, b2, b6, eq_true c10, eq_true c21, c33, Int32.not_le.mp c33]; done), by rfl⟩)
theorem hdX3_compare : yX3_compare.cls = RX3 ∧ yX3_compare.cls ≠ "java/lang/invoke/MethodHandle" ∧ yX3_compare.cls ≠ "java/lang/invoke/VarHandle" ∧ (parseMethodDescriptor yX3_compare.desc).map (fun d => d.parameters.length) = some 2 := by decide +kernel
set_option maxHeartbeats 4000000 in
set_option maxRecDepth 100000 in
theorem c_X3_same (l : Launch) (D : va_G) (Y : Nat → ClassId) (ad : MA) (t : MS) (sz : Nat) (a : Int32) (b : Int32) (hv : ∀ o, qObj t o = true → mV t o) : Met l yX3_same wsX3_same ({ frames := 4, cells := 0, slots := 0, locals := 90 }) (wrPc D Y [.ref (mO ad), .int a, .int b] (mW Y ad t) sz) (va_Qi (fun (ans : Int32) (u : MS) => ans = bI (fSame t a b) ∧ u = mSetThr t 0) (wrB D (va_A (mW Y ad t) sz) (fun u : MS => mW Y ad u)) (va_A (mW Y ad t) sz)) (0) (0) (va_A (mW Y ad t) sz) := by
  refine wrOf (Qc := fun A => va_Qi (fun (ans : Int32) (u : MS) => ans = bI (fSame t a b) ∧ u = mSetThr t 0) (wrB D A (fun u : MS => mW Y ad u)) A) (cc := cX3_same) (maxL := 3) (ret := (some .boolean)) (own := RX3) (by decide) rfl rfl (Nat.le_of_ble_eq_true rfl) ?_
  intro p e s m below meth c ls A hx hb hr hts hown hml hlocks hin hA hP hD hS hK hl
  have iwX3 : ∀ w ∈ u_ws RX3 TX3 19, w ∈ wsX3_same := fun _ h => List.mem_cons_of_mem _ (List.mem_append_right _ h)
  have hl : lv_has ls 3 [(0, .ref (mO ad)), (1, .int a), (2, .int b)] := hl
  have hS : va_S A s.heap s.heap [] := hS
  refine lv_aload_n hx hb dX3_same_0 rfl (lv_at hl 0 rfl) ?_
  refine lv_iconst (v := 0) hx hb dX3_same_1 (by decide) ?_
  refine mFput0 (ad := ad) hx hb hts iwX3 hown hK hP hD hS (hts (.fieldLink RX3 65 "ObjectRowsModel" "thrown" "I") (by decide +kernel)) dX3_same_2 (fun H locs hP hD hS => ?_)
  refine lv_aload_n hx hb dX3_same_5 rfl (lv_at hl 0 rfl) ?_
  refine lv_iload_n hx hb dX3_same_6 rfl (lv_at hl 1 rfl) ?_
  refine rcI (As := [.int a]) (rest := []) ⟨hx, hb, hml, hown, hts⟩ (c_X3_isObject l D Y ad (mSetThr t 0) a ) (cwV 1 hts gX3_same_X3_isObject rfl rfl rfl hdX3_isObject ⟨Nat.le_of_ble_eq_true rfl, Nat.le_of_ble_eq_true rfl⟩) hP hK 0 4 rfl rfl rfl hl.1 rfl (Nat.le_of_ble_eq_true rfl) dX3_same_7 ⟨(Nat.zero_le _), (Nat.zero_le _)⟩ (fun r1 hr1 => ?_)
  replace hr1 : r1 = bI (qObj t a) := hr1
  cases b2 : qObj t a
  · replace hr1 : r1 = 0 := by rw [hr1, b2]; rfl
    subst hr1
    refine lv_if_eq (tgt := 59) hx hb dX3_same_10 (by decide) (fun _ => ?_) (fun c3 => absurd (by decide) c3)
    refine lv_iconst (v := 0) hx hb dX3_same_59 (by decide) ?_
    refine W.widen (k := 0) (n := 0) (by omega) (by omega) ?_
    exact weZ (wf := fun u : MS => mW Y ad u) (mSetThr t 0) hx hb hr hlocks hP hD hS dX3_same_60 (by first | exact Or.inl rfl | exact Or.inr rfl) (⟨by first | (simp only [fSame, bI, b2, decide_true, decide_false, Bool.not_true, Bool.not_false, Bool.and_true, Bool.true_and, Bool.and_false, Bool.false_and, Bool.or_true, Bool.true_or, Bool.or_false, Bool.false_or, Bool.and_self, Bool.or_self, if_true, if_false, ite_true, ite_false, Bool.false_eq_true, reduceIte, not_true_eq_false, not_false_eq_true, and_true, true_and, and_false, false_and, or_true, true_or, or_false, false_or, and_self, or_self, eq_self, decide_eq_true_eq, Bool.true_eq_false, reduceCtorEq, ne_eq]; done) | (simp [fSame, bI, b2]; done), by rfl⟩)
  · replace hr1 : r1 = 1 := by rw [hr1, b2]; rfl
    subst hr1
    refine lv_if_eq (tgt := 59) hx hb dX3_same_10 (by decide) (fun c4 => absurd c4 (by decide)) (fun _ => ?_)
    refine lv_aload_n hx hb dX3_same_13 rfl (lv_at hl 0 rfl) ?_
    refine lv_iload_n hx hb dX3_same_14 rfl (lv_at hl 2 rfl) ?_
    refine rcI (As := [.int b]) (rest := []) ⟨hx, hb, hml, hown, hts⟩ (c_X3_isObject l D Y ad (mSetThr t 0) b ) (cwV 1 hts gX3_same_X3_isObject rfl rfl rfl hdX3_isObject ⟨Nat.le_of_ble_eq_true rfl, Nat.le_of_ble_eq_true rfl⟩) hP hK 0 4 rfl rfl rfl hl.1 rfl (Nat.le_of_ble_eq_true rfl) dX3_same_15 ⟨(Nat.zero_le _), (Nat.zero_le _)⟩ (fun r5 hr5 => ?_)
    replace hr5 : r5 = bI (qObj t b) := hr5
    cases b6 : qObj t b
    · replace hr5 : r5 = 0 := by rw [hr5, b6]; rfl
      subst hr5
      refine lv_if_eq (tgt := 59) hx hb dX3_same_18 (by decide) (fun _ => ?_) (fun c7 => absurd (by decide) c7)
      refine lv_iconst (v := 0) hx hb dX3_same_59 (by decide) ?_
      refine W.widen (k := 0) (n := 0) (by omega) (by omega) ?_
      exact weZ (wf := fun u : MS => mW Y ad u) (mSetThr t 0) hx hb hr hlocks hP hD hS dX3_same_60 (by first | exact Or.inl rfl | exact Or.inr rfl) (⟨by first | (simp only [fSame, bI, b2, b6, decide_true, decide_false, Bool.not_true, Bool.not_false, Bool.and_true, Bool.true_and, Bool.and_false, Bool.false_and, Bool.or_true, Bool.true_or, Bool.or_false, Bool.false_or, Bool.and_self, Bool.or_self, if_true, if_false, ite_true, ite_false, Bool.false_eq_true, reduceIte, not_true_eq_false, not_false_eq_true, and_true, true_and, and_false, false_and, or_true, true_or, or_false, false_or, and_self, or_self, eq_self, decide_eq_true_eq, Bool.true_eq_false, reduceCtorEq, ne_eq]; done) | (simp [fSame, bI, b2, b6]; done), by rfl⟩)
    · replace hr5 : r5 = 1 := by rw [hr5, b6]; rfl
      subst hr5
      refine lv_if_eq (tgt := 59) hx hb dX3_same_18 (by decide) (fun c8 => absurd c8 (by decide)) (fun _ => ?_)
      refine lv_aload_n hx hb dX3_same_21 rfl (lv_at hl 0 rfl) ?_
      refine va_get (D := D) (ci := 4) (v := .ref (mH ad 0)) (C := RX3) (T := TX3) (N := 19) hx hb hts iwX3 hown hK hP 0 rfl rfl 4 (by decide) (hts (.fieldLink RX3 16 "ObjectRowsModel" "kinds" "[I") (by decide +kernel)) (fun _ h9 => h9) rfl dX3_same_22 ?_
      refine lv_iload_n hx hb dX3_same_25 rfl (lv_at hl 1 rfl) ?_
      refine va_iald hx hb hK hP 1 0 rfl rfl (hv a b2).1 dX3_same_26 ?_
      refine lv_topi (fun y9 ey9 => ?_)
      obtain rfl : y9 = mK t a := ey9
      refine lv_iconst (v := 4) hx hb dX3_same_27 (by decide) ?_
      refine lv_icmp_ne (tgt := 40) hx hb dX3_same_28 (by decide) (fun c10 => ?_) (fun c10 => ?_)
      · skip
        refine lv_aload_n hx hb dX3_same_40 rfl (lv_at hl 0 rfl) ?_
        refine va_get (D := D) (ci := 4) (v := .ref (mH ad 0)) (C := RX3) (T := TX3) (N := 19) hx hb hts iwX3 hown hK hP 0 rfl rfl 4 (by decide) (hts (.fieldLink RX3 16 "ObjectRowsModel" "kinds" "[I") (by decide +kernel)) (fun _ h9 => h9) rfl dX3_same_41 ?_
        refine lv_iload_n hx hb dX3_same_44 rfl (lv_at hl 2 rfl) ?_
        refine va_iald hx hb hK hP 1 0 rfl rfl (hv b b6).1 dX3_same_45 ?_
        refine lv_topi (fun y11 ey11 => ?_)
        obtain rfl : y11 = mK t b := ey11
        refine lv_iconst (v := 4) hx hb dX3_same_46 (by decide) ?_
        refine lv_icmp_ne (tgt := 61) hx hb dX3_same_47 (by decide) (fun c12 => ?_) (fun c12 => ?_)
        · skip
          refine lv_aload_n hx hb dX3_same_61 rfl (lv_at hl 0 rfl) ?_
          refine va_get (D := D) (ci := 4) (v := .ref (mH ad 0)) (C := RX3) (T := TX3) (N := 19) hx hb hts iwX3 hown hK hP 0 rfl rfl 4 (by decide) (hts (.fieldLink RX3 16 "ObjectRowsModel" "kinds" "[I") (by decide +kernel)) (fun _ h9 => h9) rfl dX3_same_62 ?_
          refine lv_iload_n hx hb dX3_same_65 rfl (lv_at hl 1 rfl) ?_
          refine va_iald hx hb hK hP 1 0 rfl rfl (hv a b2).1 dX3_same_66 ?_
          refine lv_topi (fun y13 ey13 => ?_)
          obtain rfl : y13 = mK t a := ey13
          refine lv_iconst (v := 4) hx hb dX3_same_67 (by decide) ?_
          refine lv_icmp_ne (tgt := 96) hx hb dX3_same_68 (by decide) (fun _ => ?_) (fun c14 => absurd c14 c10)
          refine lv_aload_n hx hb dX3_same_96 rfl (lv_at hl 0 rfl) ?_
          refine lv_iload_n hx hb dX3_same_97 rfl (lv_at hl 1 rfl) ?_
          refine rcL (As := [.int a]) (rest := []) ⟨hx, hb, hml, hown, hts⟩ (c_X3_code l D Y ad (mSetThr t 0) a (hv a b2).1 (hv a b2).2.1 (hv a b2).2.2.1) (cwV 1 hts gX3_same_X3_code rfl rfl rfl hdX3_code ⟨Nat.le_of_ble_eq_true rfl, Nat.le_of_ble_eq_true rfl⟩) hP hK 0 4 rfl rfl rfl hl.1 rfl (Nat.le_of_ble_eq_true rfl) dX3_same_98 ⟨(Nat.zero_le _), (Nat.zero_le _)⟩ (fun r15 hr15 => ?_)
          replace hr15 := hr15.trans (qCode_cg (t := t) rfl rfl rfl rfl rfl rfl)
          obtain rfl : r15 = qCode t a := hr15
          refine lv_lconst (v := 0) hx hb dX3_same_101 (by decide) ?_
          refine W.lcmp hx hb dX3_same_102 ?_
          refine lv_if_lt (tgt := 124) hx hb dX3_same_103 (by decide) (fun c16 => ?_) (fun c16 => ?_)
          · skip
            replace c16 := lgc_lt c16
            refine lv_iconst (v := 0) hx hb dX3_same_124 (by decide) ?_
            refine W.widen (k := 0) (n := 0) (by omega) (by omega) ?_
            exact weZ (wf := fun u : MS => mW Y ad u) (mSetThr t 0) hx hb hr hlocks hP hD hS dX3_same_125 (by first | exact Or.inl rfl | exact Or.inr rfl) (⟨by first | (simp only [fSame, bI, b2, b6, c10, c12, c16, decide_true, decide_false, Bool.not_true, Bool.not_false, Bool.and_true, Bool.true_and, Bool.and_false, Bool.false_and, Bool.or_true, Bool.true_or, Bool.or_false, Bool.false_or, Bool.and_self, Bool.or_self, if_true, if_false, ite_true, ite_false, Bool.false_eq_true, reduceIte, not_true_eq_false, not_false_eq_true, and_true, true_and, and_false, false_and, or_true, true_or, or_false, false_or, and_self, or_self, eq_self, decide_eq_true_eq, Bool.true_eq_false, reduceCtorEq, ne_eq]; done) | (simp [fSame, bI, b2, b6, c10, c12, c16]; done), by rfl⟩)
          · skip
            replace c16 := lgc_nlt c16
            refine lv_aload_n hx hb dX3_same_106 rfl (lv_at hl 0 rfl) ?_
            refine lv_iload_n hx hb dX3_same_107 rfl (lv_at hl 1 rfl) ?_
            refine rcL (As := [.int a]) (rest := []) ⟨hx, hb, hml, hown, hts⟩ (c_X3_code l D Y ad (mSetThr t 0) a (hv a b2).1 (hv a b2).2.1 (hv a b2).2.2.1) (cwV 1 hts gX3_same_X3_code rfl rfl rfl hdX3_code ⟨Nat.le_of_ble_eq_true rfl, Nat.le_of_ble_eq_true rfl⟩) hP hK 0 4 rfl rfl rfl hl.1 rfl (Nat.le_of_ble_eq_true rfl) dX3_same_108 ⟨(Nat.zero_le _), (Nat.zero_le _)⟩ (fun r17 hr17 => ?_)
            replace hr17 := hr17.trans (qCode_cg (t := t) rfl rfl rfl rfl rfl rfl)
            obtain rfl : r17 = qCode t a := hr17
            refine lv_aload_n hx hb dX3_same_111 rfl (lv_at hl 0 rfl) ?_
            refine lv_iload_n hx hb dX3_same_112 rfl (lv_at hl 2 rfl) ?_
            refine rcL (As := [.int b]) (rest := [.long (qCode t a)]) ⟨hx, hb, hml, hown, hts⟩ (c_X3_code l D Y ad (mSetThr t 0) b (hv b b6).1 (hv b b6).2.1 (hv b b6).2.2.1) (cwV 1 hts gX3_same_X3_code rfl rfl rfl hdX3_code ⟨Nat.le_of_ble_eq_true rfl, Nat.le_of_ble_eq_true rfl⟩) hP hK 0 4 rfl rfl rfl hl.1 rfl (Nat.le_of_ble_eq_true rfl) dX3_same_113 ⟨(Nat.zero_le _), (Nat.zero_le _)⟩ (fun r18 hr18 => ?_)
            replace hr18 := hr18.trans (qCode_cg (t := t) rfl rfl rfl rfl rfl rfl)
            obtain rfl : r18 = qCode t b := hr18
            refine W.lcmp hx hb dX3_same_116 ?_
            refine lv_if_ne (tgt := 124) hx hb dX3_same_117 (by decide) (fun c19 => ?_) (fun c19 => ?_)
            · skip
              replace c19 := lgc_ne c19
              refine lv_iconst (v := 0) hx hb dX3_same_124 (by decide) ?_
              refine W.widen (k := 0) (n := 0) (by omega) (by omega) ?_
              exact weZ (wf := fun u : MS => mW Y ad u) (mSetThr t 0) hx hb hr hlocks hP hD hS dX3_same_125 (by first | exact Or.inl rfl | exact Or.inr rfl) (⟨by first | (simp only [fSame, bI, b2, b6, c10, c12, c16, c19, decide_true, decide_false, Bool.not_true, Bool.not_false, Bool.and_true, Bool.true_and, Bool.and_false, Bool.false_and, Bool.or_true, Bool.true_or, Bool.or_false, Bool.false_or, Bool.and_self, Bool.or_self, if_true, if_false, ite_true, ite_false, Bool.false_eq_true, reduceIte, not_true_eq_false, not_false_eq_true, and_true, true_and, and_false, false_and, or_true, true_or, or_false, false_or, and_self, or_self, eq_self, decide_eq_true_eq, Bool.true_eq_false, reduceCtorEq, ne_eq]; done) | (simp [fSame, bI, b2, b6, c10, c12, c16, c19]; done), by rfl⟩)
            · skip
              replace c19 := lgc_eq c19
              refine lv_iconst (v := 1) hx hb dX3_same_120 (by decide) ?_
              refine lv_goto (tgt := 125) hx hb dX3_same_121 (by decide) ?_
              refine W.widen (k := 0) (n := 0) (by omega) (by omega) ?_
              exact weZ (wf := fun u : MS => mW Y ad u) (mSetThr t 0) hx hb hr hlocks hP hD hS dX3_same_125 (by first | exact Or.inl rfl | exact Or.inr rfl) (⟨by first | (simp only [fSame, bI, b2, b6, c10, c12, c16, eq_true c19, decide_true, decide_false, Bool.not_true, Bool.not_false, Bool.and_true, Bool.true_and, Bool.and_false, Bool.false_and, Bool.or_true, Bool.true_or, Bool.or_false, Bool.false_or, Bool.and_self, Bool.or_self, if_true, if_false, ite_true, ite_false, Bool.false_eq_true, reduceIte, not_true_eq_false, not_false_eq_true, and_true, true_and, and_false, false_and, or_true, true_or, or_false, false_or, and_self, or_self, eq_self, decide_eq_true_eq, Bool.true_eq_false, reduceCtorEq, ne_eq]; done) | (simp [fSame, bI, b2, b6, c10, c12, c16, eq_true c19]; done), by rfl⟩)
        · skip
          refine lv_aload_n hx hb dX3_same_50 rfl (lv_at hl 0 rfl) ?_
          refine lv_iload_n hx hb dX3_same_51 rfl (lv_at hl 2 rfl) ?_
          refine rcI (As := [.int b]) (rest := []) ⟨hx, hb, hml, hown, hts⟩ (c_X3_accessOf l D Y ad (mSetThr t 0) b (hv b b6).1 (hv b b6).2.1) (cwV 1 hts gX3_same_X3_accessOf rfl rfl rfl hdX3_accessOf ⟨Nat.le_of_ble_eq_true rfl, Nat.le_of_ble_eq_true rfl⟩) hP hK 0 4 rfl rfl rfl hl.1 rfl (Nat.le_of_ble_eq_true rfl) dX3_same_52 ⟨(Nat.zero_le _), (Nat.zero_le _)⟩ (fun r20 hr20 => ?_)
          obtain rfl : r20 = qAcc t b := hr20
          refine lv_iconst (v := 2) hx hb dX3_same_55 (by decide) ?_
          refine lv_icmp_ge (tgt := 61) hx hb dX3_same_56 (by decide) (fun c21 => ?_) (fun c21 => ?_)
          · skip
            refine lv_aload_n hx hb dX3_same_61 rfl (lv_at hl 0 rfl) ?_
            refine va_get (D := D) (ci := 4) (v := .ref (mH ad 0)) (C := RX3) (T := TX3) (N := 19) hx hb hts iwX3 hown hK hP 0 rfl rfl 4 (by decide) (hts (.fieldLink RX3 16 "ObjectRowsModel" "kinds" "[I") (by decide +kernel)) (fun _ h9 => h9) rfl dX3_same_62 ?_
            refine lv_iload_n hx hb dX3_same_65 rfl (lv_at hl 1 rfl) ?_
            refine va_iald hx hb hK hP 1 0 rfl rfl (hv a b2).1 dX3_same_66 ?_
            refine lv_topi (fun y22 ey22 => ?_)
            obtain rfl : y22 = mK t a := ey22
            refine lv_iconst (v := 4) hx hb dX3_same_67 (by decide) ?_
            refine lv_icmp_ne (tgt := 96) hx hb dX3_same_68 (by decide) (fun _ => ?_) (fun c23 => absurd c23 c10)
            refine lv_aload_n hx hb dX3_same_96 rfl (lv_at hl 0 rfl) ?_
            refine lv_iload_n hx hb dX3_same_97 rfl (lv_at hl 1 rfl) ?_
            refine rcL (As := [.int a]) (rest := []) ⟨hx, hb, hml, hown, hts⟩ (c_X3_code l D Y ad (mSetThr t 0) a (hv a b2).1 (hv a b2).2.1 (hv a b2).2.2.1) (cwV 1 hts gX3_same_X3_code rfl rfl rfl hdX3_code ⟨Nat.le_of_ble_eq_true rfl, Nat.le_of_ble_eq_true rfl⟩) hP hK 0 4 rfl rfl rfl hl.1 rfl (Nat.le_of_ble_eq_true rfl) dX3_same_98 ⟨(Nat.zero_le _), (Nat.zero_le _)⟩ (fun r24 hr24 => ?_)
            replace hr24 := hr24.trans (qCode_cg (t := t) rfl rfl rfl rfl rfl rfl)
            obtain rfl : r24 = qCode t a := hr24
            refine lv_lconst (v := 0) hx hb dX3_same_101 (by decide) ?_
            refine W.lcmp hx hb dX3_same_102 ?_
            refine lv_if_lt (tgt := 124) hx hb dX3_same_103 (by decide) (fun c25 => ?_) (fun c25 => ?_)
            · skip
              replace c25 := lgc_lt c25
              refine lv_iconst (v := 0) hx hb dX3_same_124 (by decide) ?_
              refine W.widen (k := 0) (n := 0) (by omega) (by omega) ?_
              exact weZ (wf := fun u : MS => mW Y ad u) (mSetThr t 0) hx hb hr hlocks hP hD hS dX3_same_125 (by first | exact Or.inl rfl | exact Or.inr rfl) (⟨by first | (simp only [fSame, bI, b2, b6, c10, c12, c21, c25, decide_true, decide_false, Bool.not_true, Bool.not_false, Bool.and_true, Bool.true_and, Bool.and_false, Bool.false_and, Bool.or_true, Bool.true_or, Bool.or_false, Bool.false_or, Bool.and_self, Bool.or_self, if_true, if_false, ite_true, ite_false, Bool.false_eq_true, reduceIte, not_true_eq_false, not_false_eq_true, and_true, true_and, and_false, false_and, or_true, true_or, or_false, false_or, and_self, or_self, eq_self, decide_eq_true_eq, Bool.true_eq_false, reduceCtorEq, ne_eq]; done) | (simp [fSame, bI, b2, b6, c10, c12, c21, c25, Int32.not_lt.mpr c21]; done) | (simp only [fSame, bI, b2, b6, c10, eq_true c12, c21, c25, decide_true, decide_false, Bool.not_true, Bool.not_false, Bool.and_true, Bool.true_and, Bool.and_false, Bool.false_and, Bool.or_true, Bool.true_or, Bool.or_false, Bool.false_or, Bool.and_self, Bool.or_self, if_true, if_false, ite_true, ite_false, Bool.false_eq_true, reduceIte, not_true_eq_false, not_false_eq_true, and_true, true_and, and_false, false_and, or_true, true_or, or_false, false_or, and_self, or_self, eq_self, decide_eq_true_eq, Bool.true_eq_false, reduceCtorEq, ne_eq]; done) | (simp [fSame, bI, b2, b6, c10, eq_true c12, c21, c25, Int32.not_lt.mpr c21]; done), by rfl⟩)
            · skip
              replace c25 := lgc_nlt c25
              refine lv_aload_n hx hb dX3_same_106 rfl (lv_at hl 0 rfl) ?_
              refine lv_iload_n hx hb dX3_same_107 rfl (lv_at hl 1 rfl) ?_
              refine rcL (As := [.int a]) (rest := []) ⟨hx, hb, hml, hown, hts⟩ (c_X3_code l D Y ad (mSetThr t 0) a (hv a b2).1 (hv a b2).2.1 (hv a b2).2.2.1) (cwV 1 hts gX3_same_X3_code rfl rfl rfl hdX3_code ⟨Nat.le_of_ble_eq_true rfl, Nat.le_of_ble_eq_true rfl⟩) hP hK 0 4 rfl rfl rfl hl.1 rfl (Nat.le_of_ble_eq_true rfl) dX3_same_108 ⟨(Nat.zero_le _), (Nat.zero_le _)⟩ (fun r26 hr26 => ?_)
              replace hr26 := hr26.trans (qCode_cg (t := t) rfl rfl rfl rfl rfl rfl)
              obtain rfl : r26 = qCode t a := hr26
              refine lv_aload_n hx hb dX3_same_111 rfl (lv_at hl 0 rfl) ?_
              refine lv_iload_n hx hb dX3_same_112 rfl (lv_at hl 2 rfl) ?_
              refine rcL (As := [.int b]) (rest := [.long (qCode t a)]) ⟨hx, hb, hml, hown, hts⟩ (c_X3_code l D Y ad (mSetThr t 0) b (hv b b6).1 (hv b b6).2.1 (hv b b6).2.2.1) (cwV 1 hts gX3_same_X3_code rfl rfl rfl hdX3_code ⟨Nat.le_of_ble_eq_true rfl, Nat.le_of_ble_eq_true rfl⟩) hP hK 0 4 rfl rfl rfl hl.1 rfl (Nat.le_of_ble_eq_true rfl) dX3_same_113 ⟨(Nat.zero_le _), (Nat.zero_le _)⟩ (fun r27 hr27 => ?_)
              replace hr27 := hr27.trans (qCode_cg (t := t) rfl rfl rfl rfl rfl rfl)
              obtain rfl : r27 = qCode t b := hr27
              refine W.lcmp hx hb dX3_same_116 ?_
              refine lv_if_ne (tgt := 124) hx hb dX3_same_117 (by decide) (fun c28 => ?_) (fun c28 => ?_)
              · skip
                replace c28 := lgc_ne c28
                refine lv_iconst (v := 0) hx hb dX3_same_124 (by decide) ?_
                refine W.widen (k := 0) (n := 0) (by omega) (by omega) ?_
                exact weZ (wf := fun u : MS => mW Y ad u) (mSetThr t 0) hx hb hr hlocks hP hD hS dX3_same_125 (by first | exact Or.inl rfl | exact Or.inr rfl) (⟨by first | (simp only [fSame, bI, b2, b6, c10, c12, c21, c25, c28, decide_true, decide_false, Bool.not_true, Bool.not_false, Bool.and_true, Bool.true_and, Bool.and_false, Bool.false_and, Bool.or_true, Bool.true_or, Bool.or_false, Bool.false_or, Bool.and_self, Bool.or_self, if_true, if_false, ite_true, ite_false, Bool.false_eq_true, reduceIte, not_true_eq_false, not_false_eq_true, and_true, true_and, and_false, false_and, or_true, true_or, or_false, false_or, and_self, or_self, eq_self, decide_eq_true_eq, Bool.true_eq_false, reduceCtorEq, ne_eq]; done) | (simp [fSame, bI, b2, b6, c10, c12, c21, c25, c28, Int32.not_lt.mpr c21]; done) | (simp only [fSame, bI, b2, b6, c10, eq_true c12, c21, c25, c28, decide_true, decide_false, Bool.not_true, Bool.not_false, Bool.and_true, Bool.true_and, Bool.and_false, Bool.false_and, Bool.or_true, Bool.true_or, Bool.or_false, Bool.false_or, Bool.and_self, Bool.or_self, if_true, if_false, ite_true, ite_false, Bool.false_eq_true, reduceIte, not_true_eq_false, not_false_eq_true, and_true, true_and, and_false, false_and, or_true, true_or, or_false, false_or, and_self, or_self, eq_self, decide_eq_true_eq, Bool.true_eq_false, reduceCtorEq, ne_eq]; done) | (simp [fSame, bI, b2, b6, c10, eq_true c12, c21, c25, c28, Int32.not_lt.mpr c21]; done), by rfl⟩)
              · skip
                replace c28 := lgc_eq c28
                refine lv_iconst (v := 1) hx hb dX3_same_120 (by decide) ?_
                refine lv_goto (tgt := 125) hx hb dX3_same_121 (by decide) ?_
                refine W.widen (k := 0) (n := 0) (by omega) (by omega) ?_
                exact weZ (wf := fun u : MS => mW Y ad u) (mSetThr t 0) hx hb hr hlocks hP hD hS dX3_same_125 (by first | exact Or.inl rfl | exact Or.inr rfl) (⟨by first | (simp only [fSame, bI, b2, b6, c10, c12, c21, c25, eq_true c28, decide_true, decide_false, Bool.not_true, Bool.not_false, Bool.and_true, Bool.true_and, Bool.and_false, Bool.false_and, Bool.or_true, Bool.true_or, Bool.or_false, Bool.false_or, Bool.and_self, Bool.or_self, if_true, if_false, ite_true, ite_false, Bool.false_eq_true, reduceIte, not_true_eq_false, not_false_eq_true, and_true, true_and, and_false, false_and, or_true, true_or, or_false, false_or, and_self, or_self, eq_self, decide_eq_true_eq, Bool.true_eq_false, reduceCtorEq, ne_eq]; done) | (simp [fSame, bI, b2, b6, c10, c12, c21, c25, eq_true c28, Int32.not_lt.mpr c21]; done) | (simp only [fSame, bI, b2, b6, c10, eq_true c12, c21, c25, eq_true c28, decide_true, decide_false, Bool.not_true, Bool.not_false, Bool.and_true, Bool.true_and, Bool.and_false, Bool.false_and, Bool.or_true, Bool.true_or, Bool.or_false, Bool.false_or, Bool.and_self, Bool.or_self, if_true, if_false, ite_true, ite_false, Bool.false_eq_true, reduceIte, not_true_eq_false, not_false_eq_true, and_true, true_and, and_false, false_and, or_true, true_or, or_false, false_or, and_self, or_self, eq_self, decide_eq_true_eq, Bool.true_eq_false, reduceCtorEq, ne_eq]; done) | (simp [fSame, bI, b2, b6, c10, eq_true c12, c21, c25, eq_true c28, Int32.not_lt.mpr c21]; done), by rfl⟩)
          · skip
            refine lv_iconst (v := 0) hx hb dX3_same_59 (by decide) ?_
            refine W.widen (k := 0) (n := 0) (by omega) (by omega) ?_
            exact weZ (wf := fun u : MS => mW Y ad u) (mSetThr t 0) hx hb hr hlocks hP hD hS dX3_same_60 (by first | exact Or.inl rfl | exact Or.inr rfl) (⟨by first | (simp only [fSame, bI, b2, b6, c10, c12, c21, decide_true, decide_false, Bool.not_true, Bool.not_false, Bool.and_true, Bool.true_and, Bool.and_false, Bool.false_and, Bool.or_true, Bool.true_or, Bool.or_false, Bool.false_or, Bool.and_self, Bool.or_self, if_true, if_false, ite_true, ite_false, Bool.false_eq_true, reduceIte, not_true_eq_false, not_false_eq_true, and_true, true_and, and_false, false_and, or_true, true_or, or_false, false_or, and_self, or_self, eq_self, decide_eq_true_eq, Bool.true_eq_false, reduceCtorEq, ne_eq]; done) | (simp [fSame, bI, b2, b6, c10, c12, c21, Int32.not_le.mp c21]; done) | (simp only [fSame, bI, b2, b6, c10, eq_true c12, c21, decide_true, decide_false, Bool.not_true, Bool.not_false, Bool.and_true, Bool.true_and, Bool.and_false, Bool.false_and, Bool.or_true, Bool.true_or, Bool.or_false, Bool.false_or, Bool.and_self, Bool.or_self, if_true, if_false, ite_true, ite_false, Bool.false_eq_true, reduceIte, not_true_eq_false, not_false_eq_true, and_true, true_and, and_false, false_and, or_true, true_or, or_false, false_or, and_self, or_self, eq_self, decide_eq_true_eq, Bool.true_eq_false, reduceCtorEq, ne_eq]; done) | (simp [fSame, bI, b2, b6, c10, eq_true c12, c21, Int32.not_le.mp c21]; done), by rfl⟩)
      · skip
        refine lv_aload_n hx hb dX3_same_31 rfl (lv_at hl 0 rfl) ?_
        refine lv_iload_n hx hb dX3_same_32 rfl (lv_at hl 1 rfl) ?_
        refine rcI (As := [.int a]) (rest := []) ⟨hx, hb, hml, hown, hts⟩ (c_X3_accessOf l D Y ad (mSetThr t 0) a (hv a b2).1 (hv a b2).2.1) (cwV 1 hts gX3_same_X3_accessOf rfl rfl rfl hdX3_accessOf ⟨Nat.le_of_ble_eq_true rfl, Nat.le_of_ble_eq_true rfl⟩) hP hK 0 4 rfl rfl rfl hl.1 rfl (Nat.le_of_ble_eq_true rfl) dX3_same_33 ⟨(Nat.zero_le _), (Nat.zero_le _)⟩ (fun r29 hr29 => ?_)
        obtain rfl : r29 = qAcc t a := hr29
        refine lv_iconst (v := 2) hx hb dX3_same_36 (by decide) ?_
        refine lv_icmp_lt (tgt := 59) hx hb dX3_same_37 (by decide) (fun c30 => ?_) (fun c30 => ?_)
        · skip
          refine lv_iconst (v := 0) hx hb dX3_same_59 (by decide) ?_
          refine W.widen (k := 0) (n := 0) (by omega) (by omega) ?_
          exact weZ (wf := fun u : MS => mW Y ad u) (mSetThr t 0) hx hb hr hlocks hP hD hS dX3_same_60 (by first | exact Or.inl rfl | exact Or.inr rfl) (⟨by first | (simp only [fSame, bI, b2, b6, c10, c30, decide_true, decide_false, Bool.not_true, Bool.not_false, Bool.and_true, Bool.true_and, Bool.and_false, Bool.false_and, Bool.or_true, Bool.true_or, Bool.or_false, Bool.false_or, Bool.and_self, Bool.or_self, if_true, if_false, ite_true, ite_false, Bool.false_eq_true, reduceIte, not_true_eq_false, not_false_eq_true, and_true, true_and, and_false, false_and, or_true, true_or, or_false, false_or, and_self, or_self, eq_self, decide_eq_true_eq, Bool.true_eq_false, reduceCtorEq, ne_eq]; done) | (simp [fSame, bI, b2, b6, c10, c30, Int32.not_le.mpr c30]; done) | (simp only [fSame, bI, b2, b6, eq_true c10, c30, decide_true, decide_false, Bool.not_true, Bool.not_false, Bool.and_true, Bool.true_and, Bool.and_false, Bool.false_and, Bool.or_true, Bool.true_or, Bool.or_false, Bool.false_or, Bool.and_self, Bool.or_self, if_true, if_false, ite_true, ite_false, Bool.false_eq_true, reduceIte, not_true_eq_false, not_false_eq_true, and_true, true_and, and_false, false_and, or_true, true_or, or_false, false_or, and_self, or_self, eq_self, decide_eq_true_eq, Bool.true_eq_false, reduceCtorEq, ne_eq]; done) | (simp [fSame, bI, b2, b6, eq_true c10, c30, Int32.not_le.mpr c30]; done), by rfl⟩)
        · skip
          refine lv_aload_n hx hb dX3_same_40 rfl (lv_at hl 0 rfl) ?_
          refine va_get (D := D) (ci := 4) (v := .ref (mH ad 0)) (C := RX3) (T := TX3) (N := 19) hx hb hts iwX3 hown hK hP 0 rfl rfl 4 (by decide) (hts (.fieldLink RX3 16 "ObjectRowsModel" "kinds" "[I") (by decide +kernel)) (fun _ h9 => h9) rfl dX3_same_41 ?_
          refine lv_iload_n hx hb dX3_same_44 rfl (lv_at hl 2 rfl) ?_
          refine va_iald hx hb hK hP 1 0 rfl rfl (hv b b6).1 dX3_same_45 ?_
          refine lv_topi (fun y31 ey31 => ?_)
          obtain rfl : y31 = mK t b := ey31
          refine lv_iconst (v := 4) hx hb dX3_same_46 (by decide) ?_
          refine lv_icmp_ne (tgt := 61) hx hb dX3_same_47 (by decide) (fun c32 => ?_) (fun c32 => ?_)
          · skip
            refine lv_aload_n hx hb dX3_same_61 rfl (lv_at hl 0 rfl) ?_
            refine va_get (D := D) (ci := 4) (v := .ref (mH ad 0)) (C := RX3) (T := TX3) (N := 19) hx hb hts iwX3 hown hK hP 0 rfl rfl 4 (by decide) (hts (.fieldLink RX3 16 "ObjectRowsModel" "kinds" "[I") (by decide +kernel)) (fun _ h9 => h9) rfl dX3_same_62 ?_
            refine lv_iload_n hx hb dX3_same_65 rfl (lv_at hl 1 rfl) ?_
            refine va_iald hx hb hK hP 1 0 rfl rfl (hv a b2).1 dX3_same_66 ?_
            refine lv_topi (fun y33 ey33 => ?_)
            obtain rfl : y33 = mK t a := ey33
            refine lv_iconst (v := 4) hx hb dX3_same_67 (by decide) ?_
            refine lv_icmp_ne (tgt := 96) hx hb dX3_same_68 (by decide) (fun c34 => absurd c10 c34) (fun _ => ?_)
            refine lv_aload_n hx hb dX3_same_71 rfl (lv_at hl 0 rfl) ?_
            refine va_get (D := D) (ci := 4) (v := .ref (mH ad 0)) (C := RX3) (T := TX3) (N := 19) hx hb hts iwX3 hown hK hP 0 rfl rfl 4 (by decide) (hts (.fieldLink RX3 16 "ObjectRowsModel" "kinds" "[I") (by decide +kernel)) (fun _ h9 => h9) rfl dX3_same_72 ?_
            refine lv_iload_n hx hb dX3_same_75 rfl (lv_at hl 2 rfl) ?_
            refine va_iald hx hb hK hP 1 0 rfl rfl (hv b b6).1 dX3_same_76 ?_
            refine lv_topi (fun y35 ey35 => ?_)
            obtain rfl : y35 = mK t b := ey35
            refine lv_iconst (v := 4) hx hb dX3_same_77 (by decide) ?_
            refine lv_icmp_ne (tgt := 96) hx hb dX3_same_78 (by decide) (fun _ => ?_) (fun c36 => absurd c36 c32)
            refine lv_aload_n hx hb dX3_same_96 rfl (lv_at hl 0 rfl) ?_
            refine lv_iload_n hx hb dX3_same_97 rfl (lv_at hl 1 rfl) ?_
            refine rcL (As := [.int a]) (rest := []) ⟨hx, hb, hml, hown, hts⟩ (c_X3_code l D Y ad (mSetThr t 0) a (hv a b2).1 (hv a b2).2.1 (hv a b2).2.2.1) (cwV 1 hts gX3_same_X3_code rfl rfl rfl hdX3_code ⟨Nat.le_of_ble_eq_true rfl, Nat.le_of_ble_eq_true rfl⟩) hP hK 0 4 rfl rfl rfl hl.1 rfl (Nat.le_of_ble_eq_true rfl) dX3_same_98 ⟨(Nat.zero_le _), (Nat.zero_le _)⟩ (fun r37 hr37 => ?_)
            replace hr37 := hr37.trans (qCode_cg (t := t) rfl rfl rfl rfl rfl rfl)
            obtain rfl : r37 = qCode t a := hr37
            refine lv_lconst (v := 0) hx hb dX3_same_101 (by decide) ?_
            refine W.lcmp hx hb dX3_same_102 ?_
            refine lv_if_lt (tgt := 124) hx hb dX3_same_103 (by decide) (fun c38 => ?_) (fun c38 => ?_)
            · skip
              replace c38 := lgc_lt c38
              refine lv_iconst (v := 0) hx hb dX3_same_124 (by decide) ?_
              refine W.widen (k := 0) (n := 0) (by omega) (by omega) ?_
              exact weZ (wf := fun u : MS => mW Y ad u) (mSetThr t 0) hx hb hr hlocks hP hD hS dX3_same_125 (by first | exact Or.inl rfl | exact Or.inr rfl) (⟨by first | (simp only [fSame, bI, b2, b6, c10, c30, c32, c38, decide_true, decide_false, Bool.not_true, Bool.not_false, Bool.and_true, Bool.true_and, Bool.and_false, Bool.false_and, Bool.or_true, Bool.true_or, Bool.or_false, Bool.false_or, Bool.and_self, Bool.or_self, if_true, if_false, ite_true, ite_false, Bool.false_eq_true, reduceIte, not_true_eq_false, not_false_eq_true, and_true, true_and, and_false, false_and, or_true, true_or, or_false, false_or, and_self, or_self, eq_self, decide_eq_true_eq, Bool.true_eq_false, reduceCtorEq, ne_eq]; done) | (simp [fSame, bI, b2, b6, c10, c30, c32, c38, Int32.not_lt.mp c30]; done) | (simp only [fSame, bI, b2, b6, eq_true c10, c30, c32, c38, decide_true, decide_false, Bool.not_true, Bool.not_false, Bool.and_true, Bool.true_and, Bool.and_false, Bool.false_and, Bool.or_true, Bool.true_or, Bool.or_false, Bool.false_or, Bool.and_self, Bool.or_self, if_true, if_false, ite_true, ite_false, Bool.false_eq_true, reduceIte, not_true_eq_false, not_false_eq_true, and_true, true_and, and_false, false_and, or_true, true_or, or_false, false_or, and_self, or_self, eq_self, decide_eq_true_eq, Bool.true_eq_false, reduceCtorEq, ne_eq]; done) | (simp [fSame, bI, b2, b6, eq_true c10, c30, c32, c38, Int32.not_lt.mp c30]; done), by rfl⟩)
            · skip
              replace c38 := lgc_nlt c38
              refine lv_aload_n hx hb dX3_same_106 rfl (lv_at hl 0 rfl) ?_
              refine lv_iload_n hx hb dX3_same_107 rfl (lv_at hl 1 rfl) ?_
              refine rcL (As := [.int a]) (rest := []) ⟨hx, hb, hml, hown, hts⟩ (c_X3_code l D Y ad (mSetThr t 0) a (hv a b2).1 (hv a b2).2.1 (hv a b2).2.2.1) (cwV 1 hts gX3_same_X3_code rfl rfl rfl hdX3_code ⟨Nat.le_of_ble_eq_true rfl, Nat.le_of_ble_eq_true rfl⟩) hP hK 0 4 rfl rfl rfl hl.1 rfl (Nat.le_of_ble_eq_true rfl) dX3_same_108 ⟨(Nat.zero_le _), (Nat.zero_le _)⟩ (fun r39 hr39 => ?_)
              replace hr39 := hr39.trans (qCode_cg (t := t) rfl rfl rfl rfl rfl rfl)
              obtain rfl : r39 = qCode t a := hr39
              refine lv_aload_n hx hb dX3_same_111 rfl (lv_at hl 0 rfl) ?_
              refine lv_iload_n hx hb dX3_same_112 rfl (lv_at hl 2 rfl) ?_
              refine rcL (As := [.int b]) (rest := [.long (qCode t a)]) ⟨hx, hb, hml, hown, hts⟩ (c_X3_code l D Y ad (mSetThr t 0) b (hv b b6).1 (hv b b6).2.1 (hv b b6).2.2.1) (cwV 1 hts gX3_same_X3_code rfl rfl rfl hdX3_code ⟨Nat.le_of_ble_eq_true rfl, Nat.le_of_ble_eq_true rfl⟩) hP hK 0 4 rfl rfl rfl hl.1 rfl (Nat.le_of_ble_eq_true rfl) dX3_same_113 ⟨(Nat.zero_le _), (Nat.zero_le _)⟩ (fun r40 hr40 => ?_)
              replace hr40 := hr40.trans (qCode_cg (t := t) rfl rfl rfl rfl rfl rfl)
              obtain rfl : r40 = qCode t b := hr40
              refine W.lcmp hx hb dX3_same_116 ?_
              refine lv_if_ne (tgt := 124) hx hb dX3_same_117 (by decide) (fun c41 => ?_) (fun c41 => ?_)
              · skip
                replace c41 := lgc_ne c41
                refine lv_iconst (v := 0) hx hb dX3_same_124 (by decide) ?_
                refine W.widen (k := 0) (n := 0) (by omega) (by omega) ?_
                exact weZ (wf := fun u : MS => mW Y ad u) (mSetThr t 0) hx hb hr hlocks hP hD hS dX3_same_125 (by first | exact Or.inl rfl | exact Or.inr rfl) (⟨by first | (simp only [fSame, bI, b2, b6, c10, c30, c32, c38, c41, decide_true, decide_false, Bool.not_true, Bool.not_false, Bool.and_true, Bool.true_and, Bool.and_false, Bool.false_and, Bool.or_true, Bool.true_or, Bool.or_false, Bool.false_or, Bool.and_self, Bool.or_self, if_true, if_false, ite_true, ite_false, Bool.false_eq_true, reduceIte, not_true_eq_false, not_false_eq_true, and_true, true_and, and_false, false_and, or_true, true_or, or_false, false_or, and_self, or_self, eq_self, decide_eq_true_eq, Bool.true_eq_false, reduceCtorEq, ne_eq]; done) | (simp [fSame, bI, b2, b6, c10, c30, c32, c38, c41, Int32.not_lt.mp c30]; done) | (simp only [fSame, bI, b2, b6, eq_true c10, c30, c32, c38, c41, decide_true, decide_false, Bool.not_true, Bool.not_false, Bool.and_true, Bool.true_and, Bool.and_false, Bool.false_and, Bool.or_true, Bool.true_or, Bool.or_false, Bool.false_or, Bool.and_self, Bool.or_self, if_true, if_false, ite_true, ite_false, Bool.false_eq_true, reduceIte, not_true_eq_false, not_false_eq_true, and_true, true_and, and_false, false_and, or_true, true_or, or_false, false_or, and_self, or_self, eq_self, decide_eq_true_eq, Bool.true_eq_false, reduceCtorEq, ne_eq]; done) | (simp [fSame, bI, b2, b6, eq_true c10, c30, c32, c38, c41, Int32.not_lt.mp c30]; done), by rfl⟩)
              · skip
                replace c41 := lgc_eq c41
                refine lv_iconst (v := 1) hx hb dX3_same_120 (by decide) ?_
                refine lv_goto (tgt := 125) hx hb dX3_same_121 (by decide) ?_
                refine W.widen (k := 0) (n := 0) (by omega) (by omega) ?_
                exact weZ (wf := fun u : MS => mW Y ad u) (mSetThr t 0) hx hb hr hlocks hP hD hS dX3_same_125 (by first | exact Or.inl rfl | exact Or.inr rfl) (⟨by first | (simp only [fSame, bI, b2, b6, c10, c30, c32, c38, eq_true c41, decide_true, decide_false, Bool.not_true, Bool.not_false, Bool.and_true, Bool.true_and, Bool.and_false, Bool.false_and, Bool.or_true, Bool.true_or, Bool.or_false, Bool.false_or, Bool.and_self, Bool.or_self, if_true, if_false, ite_true, ite_false, Bool.false_eq_true, reduceIte, not_true_eq_false, not_false_eq_true, and_true, true_and, and_false, false_and, or_true, true_or, or_false, false_or, and_self, or_self, eq_self, decide_eq_true_eq, Bool.true_eq_false, reduceCtorEq, ne_eq]; done) | (simp [fSame, bI, b2, b6, c10, c30, c32, c38, eq_true c41, Int32.not_lt.mp c30]; done) | (simp only [fSame, bI, b2, b6, eq_true c10, c30, c32, c38, eq_true c41, decide_true, decide_false, Bool.not_true, Bool.not_false, Bool.and_true, Bool.true_and, Bool.and_false, Bool.false_and, Bool.or_true, Bool.true_or, Bool.or_false, Bool.false_or, Bool.and_self, Bool.or_self, if_true, if_false, ite_true, ite_false, Bool.false_eq_true, reduceIte, not_true_eq_false, not_false_eq_true, and_true, true_and, and_false, false_and, or_true, true_or, or_false, false_or, and_self, or_self, eq_self, decide_eq_true_eq, Bool.true_eq_false, reduceCtorEq, ne_eq]; done) | (simp [fSame, bI, b2, b6, eq_true c10, c30, c32, c38, eq_true c41, Int32.not_lt.mp c30]; done), by rfl⟩)
          · skip
            refine lv_aload_n hx hb dX3_same_50 rfl (lv_at hl 0 rfl) ?_
            refine lv_iload_n hx hb dX3_same_51 rfl (lv_at hl 2 rfl) ?_
            refine rcI (As := [.int b]) (rest := []) ⟨hx, hb, hml, hown, hts⟩ (c_X3_accessOf l D Y ad (mSetThr t 0) b (hv b b6).1 (hv b b6).2.1) (cwV 1 hts gX3_same_X3_accessOf rfl rfl rfl hdX3_accessOf ⟨Nat.le_of_ble_eq_true rfl, Nat.le_of_ble_eq_true rfl⟩) hP hK 0 4 rfl rfl rfl hl.1 rfl (Nat.le_of_ble_eq_true rfl) dX3_same_52 ⟨(Nat.zero_le _), (Nat.zero_le _)⟩ (fun r42 hr42 => ?_)
            obtain rfl : r42 = qAcc t b := hr42
            refine lv_iconst (v := 2) hx hb dX3_same_55 (by decide) ?_
            refine lv_icmp_ge (tgt := 61) hx hb dX3_same_56 (by decide) (fun c43 => ?_) (fun c43 => ?_)
            · skip
              refine lv_aload_n hx hb dX3_same_61 rfl (lv_at hl 0 rfl) ?_
              refine va_get (D := D) (ci := 4) (v := .ref (mH ad 0)) (C := RX3) (T := TX3) (N := 19) hx hb hts iwX3 hown hK hP 0 rfl rfl 4 (by decide) (hts (.fieldLink RX3 16 "ObjectRowsModel" "kinds" "[I") (by decide +kernel)) (fun _ h9 => h9) rfl dX3_same_62 ?_
              refine lv_iload_n hx hb dX3_same_65 rfl (lv_at hl 1 rfl) ?_
              refine va_iald hx hb hK hP 1 0 rfl rfl (hv a b2).1 dX3_same_66 ?_
              refine lv_topi (fun y44 ey44 => ?_)
              obtain rfl : y44 = mK t a := ey44
              refine lv_iconst (v := 4) hx hb dX3_same_67 (by decide) ?_
              refine lv_icmp_ne (tgt := 96) hx hb dX3_same_68 (by decide) (fun c45 => absurd c10 c45) (fun _ => ?_)
              refine lv_aload_n hx hb dX3_same_71 rfl (lv_at hl 0 rfl) ?_
              refine va_get (D := D) (ci := 4) (v := .ref (mH ad 0)) (C := RX3) (T := TX3) (N := 19) hx hb hts iwX3 hown hK hP 0 rfl rfl 4 (by decide) (hts (.fieldLink RX3 16 "ObjectRowsModel" "kinds" "[I") (by decide +kernel)) (fun _ h9 => h9) rfl dX3_same_72 ?_
              refine lv_iload_n hx hb dX3_same_75 rfl (lv_at hl 2 rfl) ?_
              refine va_iald hx hb hK hP 1 0 rfl rfl (hv b b6).1 dX3_same_76 ?_
              refine lv_topi (fun y46 ey46 => ?_)
              obtain rfl : y46 = mK t b := ey46
              refine lv_iconst (v := 4) hx hb dX3_same_77 (by decide) ?_
              refine lv_icmp_ne (tgt := 96) hx hb dX3_same_78 (by decide) (fun c47 => absurd c32 c47) (fun _ => ?_)
              refine lv_aload_n hx hb dX3_same_81 rfl (lv_at hl 0 rfl) ?_
              refine lv_iload_n hx hb dX3_same_82 rfl (lv_at hl 1 rfl) ?_
              refine lv_iload_n hx hb dX3_same_83 rfl (lv_at hl 2 rfl) ?_
              refine rcI (As := [.int a, .int b]) (rest := []) ⟨hx, hb, hml, hown, hts⟩ (c_X3_order l D Y ad (mSetThr t 0) a b (hv a b2).1 (hv b b6).1 ((hv a b2).2.2.1 c10) ((hv b b6).2.2.1 c32)) (cwV 2 hts gX3_same_X3_order rfl rfl rfl hdX3_order ⟨Nat.le_of_ble_eq_true rfl, Nat.le_of_ble_eq_true rfl⟩) hP hK 0 4 rfl rfl rfl hl.1 rfl (Nat.le_of_ble_eq_true rfl) dX3_same_84 ⟨(Nat.zero_le _), (Nat.zero_le _)⟩ (fun r48 hr48 => ?_)
              replace hr48 := hr48.trans (qOrd_cg (t := t) rfl rfl rfl rfl)
              obtain rfl : r48 = qOrd t a b := hr48
              refine lv_if_ne (tgt := 94) hx hb dX3_same_87 (by decide) (fun c49 => ?_) (fun c49 => ?_)
              · skip
                refine lv_iconst (v := 0) hx hb dX3_same_94 (by decide) ?_
                refine W.widen (k := 0) (n := 0) (by omega) (by omega) ?_
                exact weZ (wf := fun u : MS => mW Y ad u) (mSetThr t 0) hx hb hr hlocks hP hD hS dX3_same_95 (by first | exact Or.inl rfl | exact Or.inr rfl) (⟨by first | (simp only [fSame, bI, b2, b6, c10, c30, c32, c43, c49, decide_true, decide_false, Bool.not_true, Bool.not_false, Bool.and_true, Bool.true_and, Bool.and_false, Bool.false_and, Bool.or_true, Bool.true_or, Bool.or_false, Bool.false_or, Bool.and_self, Bool.or_self, if_true, if_false, ite_true, ite_false, Bool.false_eq_true, reduceIte, not_true_eq_false, not_false_eq_true, and_true, true_and, and_false, false_and, or_true, true_or, or_false, false_or, and_self, or_self, eq_self, decide_eq_true_eq, Bool.true_eq_false, reduceCtorEq, ne_eq]; done) | (simp [fSame, bI, b2, b6, c10, c30, c32, c43, c49, Int32.not_lt.mp c30, Int32.not_lt.mpr c43]; done) | (simp only [fSame, bI, b2, b6, eq_true c10, c30, eq_true c32, c43, c49, decide_true, decide_false, Bool.not_true, Bool.not_false, Bool.and_true, Bool.true_and, Bool.and_false, Bool.false_and, Bool.or_true, Bool.true_or, Bool.or_false, Bool.false_or, Bool.and_self, Bool.or_self, if_true, if_false, ite_true, ite_false, Bool.false_eq_true, reduceIte, not_true_eq_false, not_false_eq_true, and_true, true_and, and_false, false_and, or_true, true_or, or_false, false_or, and_self, or_self, eq_self, decide_eq_true_eq, Bool.true_eq_false, reduceCtorEq, ne_eq]; done) | (simp [fSame, bI, b2, b6, eq_true c10, c30, eq_true c32, c43, c49, Int32.not_lt.mp c30, Int32.not_lt.mpr c43]; done), by rfl⟩)
              · skip
                refine lv_iconst (v := 1) hx hb dX3_same_90 (by decide) ?_
                refine lv_goto (tgt := 95) hx hb dX3_same_91 (by decide) ?_
                refine W.widen (k := 0) (n := 0) (by omega) (by omega) ?_
                exact weZ (wf := fun u : MS => mW Y ad u) (mSetThr t 0) hx hb hr hlocks hP hD hS dX3_same_95 (by first | exact Or.inl rfl | exact Or.inr rfl) (⟨by first | (simp only [fSame, bI, b2, b6, c10, c30, c32, c43, c49, decide_true, decide_false, Bool.not_true, Bool.not_false, Bool.and_true, Bool.true_and, Bool.and_false, Bool.false_and, Bool.or_true, Bool.true_or, Bool.or_false, Bool.false_or, Bool.and_self, Bool.or_self, if_true, if_false, ite_true, ite_false, Bool.false_eq_true, reduceIte, not_true_eq_false, not_false_eq_true, and_true, true_and, and_false, false_and, or_true, true_or, or_false, false_or, and_self, or_self, eq_self, decide_eq_true_eq, Bool.true_eq_false, reduceCtorEq, ne_eq]; done) | (simp [fSame, bI, b2, b6, c10, c30, c32, c43, c49, Int32.not_lt.mp c30, Int32.not_lt.mpr c43]; done) | (simp only [fSame, bI, b2, b6, eq_true c10, c30, eq_true c32, c43, eq_true c49, decide_true, decide_false, Bool.not_true, Bool.not_false, Bool.and_true, Bool.true_and, Bool.and_false, Bool.false_and, Bool.or_true, Bool.true_or, Bool.or_false, Bool.false_or, Bool.and_self, Bool.or_self, if_true, if_false, ite_true, ite_false, Bool.false_eq_true, reduceIte, not_true_eq_false, not_false_eq_true, and_true, true_and, and_false, false_and, or_true, true_or, or_false, false_or, and_self, or_self, eq_self, decide_eq_true_eq, Bool.true_eq_false, reduceCtorEq, ne_eq]; done) | (simp [fSame, bI, b2, b6, eq_true c10, c30, eq_true c32, c43, eq_true c49, Int32.not_lt.mp c30, Int32.not_lt.mpr c43]; done), by rfl⟩)
            · skip
              refine lv_iconst (v := 0) hx hb dX3_same_59 (by decide) ?_
              refine W.widen (k := 0) (n := 0) (by omega) (by omega) ?_
              exact weZ (wf := fun u : MS => mW Y ad u) (mSetThr t 0) hx hb hr hlocks hP hD hS dX3_same_60 (by first | exact Or.inl rfl | exact Or.inr rfl) (⟨by first | (simp only [fSame, bI, b2, b6, c10, c30, c32, c43, decide_true, decide_false, Bool.not_true, Bool.not_false, Bool.and_true, Bool.true_and, Bool.and_false, Bool.false_and, Bool.or_true, Bool.true_or, Bool.or_false, Bool.false_or, Bool.and_self, Bool.or_self, if_true, if_false, ite_true, ite_false, Bool.false_eq_true, reduceIte, not_true_eq_false, not_false_eq_true, and_true, true_and, and_false, false_and, or_true, true_or, or_false, false_or, and_self, or_self, eq_self, decide_eq_true_eq, Bool.true_eq_false, reduceCtorEq, ne_eq]; done) | (simp [fSame, bI, b2, b6, c10, c30, c32, c43, Int32.not_lt.mp c30, Int32.not_le.mp c43]; done) | (simp only [fSame, bI, b2, b6, eq_true c10, c30, eq_true c32, c43, decide_true, decide_false, Bool.not_true, Bool.not_false, Bool.and_true, Bool.true_and, Bool.and_false, Bool.false_and, Bool.or_true, Bool.true_or, Bool.or_false, Bool.false_or, Bool.and_self, Bool.or_self, if_true, if_false, ite_true, ite_false, Bool.false_eq_true, reduceIte, not_true_eq_false, not_false_eq_true, and_true, true_and, and_false, false_and, or_true, true_or, or_false, false_or, and_self, or_self, eq_self, decide_eq_true_eq, Bool.true_eq_false, reduceCtorEq, ne_eq]; done) | (simp [fSame, bI, b2, b6, eq_true c10, c30, eq_true c32, c43, Int32.not_lt.mp c30, Int32.not_le.mp c43]; done), by rfl⟩)
theorem hdX3_same : yX3_same.cls = RX3 ∧ yX3_same.cls ≠ "java/lang/invoke/MethodHandle" ∧ yX3_same.cls ≠ "java/lang/invoke/VarHandle" ∧ (parseMethodDescriptor yX3_same.desc).map (fun d => d.parameters.length) = some 2 := by decide +kernel
set_option maxHeartbeats 4000000 in
set_option maxRecDepth 100000 in
theorem c_X3_look (l : Launch) (D : va_G) (Y : Nat → ClassId) (ad : MA) (t : MS) (sz : Nat) (d : Int32) (k : Int32) (hv : ∀ o, qObj t o = true → mV t o) : Met l yX3_look wsX3_look ({ frames := 5, cells := 0, slots := 0, locals := 111 }) (wrPc D Y [.ref (mO ad), .int d, .int k] (mW Y ad t) sz) (va_Qi (fun (ans : Int32) (u : MS) => ans = fLook t d k ∧ u = mSetThr t 0) (wrB D (va_A (mW Y ad t) sz) (fun u : MS => mW Y ad u)) (va_A (mW Y ad t) sz)) (0) (0) (va_A (mW Y ad t) sz) := by
  refine wrOf (Qc := fun A => va_Qi (fun (ans : Int32) (u : MS) => ans = fLook t d k ∧ u = mSetThr t 0) (wrB D A (fun u : MS => mW Y ad u)) A) (cc := cX3_look) (maxL := 4) (ret := (some .int)) (own := RX3) (by decide) rfl rfl (Nat.le_of_ble_eq_true rfl) ?_
  intro p e s m below meth c ls A hx hb hr hts hown hml hlocks hin hA hP hD hS hK hl
  have iwX3 : ∀ w ∈ u_ws RX3 TX3 19, w ∈ wsX3_look := fun _ h => List.mem_cons_of_mem _ (List.mem_append_right _ h)
  have hl : lv_has ls 4 [(0, .ref (mO ad)), (1, .int d), (2, .int k)] := hl
  have hS : va_S A s.heap s.heap [] := hS
  refine lv_aload_n hx hb dX3_look_0 rfl (lv_at hl 0 rfl) ?_
  refine lv_iconst (v := 0) hx hb dX3_look_1 (by decide) ?_
  refine mFput0 (ad := ad) hx hb hts iwX3 hown hK hP hD hS (hts (.fieldLink RX3 65 "ObjectRowsModel" "thrown" "I") (by decide +kernel)) dX3_look_2 (fun H locs hP hD hS => ?_)
  refine lv_aload_n hx hb dX3_look_5 rfl (lv_at hl 0 rfl) ?_
  refine lv_iload_n hx hb dX3_look_6 rfl (lv_at hl 1 rfl) ?_
  refine rcI (As := [.int d]) (rest := []) ⟨hx, hb, hml, hown, hts⟩ (c_X3_isObject l D Y ad (mSetThr t 0) d ) (cwV 1 hts gX3_look_X3_isObject rfl rfl rfl hdX3_isObject ⟨Nat.le_of_ble_eq_true rfl, Nat.le_of_ble_eq_true rfl⟩) hP hK 0 4 rfl rfl rfl hl.1 rfl (Nat.le_of_ble_eq_true rfl) dX3_look_7 ⟨(Nat.zero_le _), (Nat.zero_le _)⟩ (fun r1 hr1 => ?_)
  replace hr1 : r1 = bI (qObj t d) := hr1
  cases b2 : qObj t d
  · replace hr1 : r1 = 0 := by rw [hr1, b2]; rfl
    subst hr1
    refine lv_if_eq (tgt := 21) hx hb dX3_look_10 (by decide) (fun _ => ?_) (fun c3 => absurd (by decide) c3)
    refine lv_iconst (v := (-1)) hx hb dX3_look_21 (by decide) ?_
    refine W.widen (k := 0) (n := 0) (by omega) (by omega) ?_
    exact weI (wf := fun u : MS => mW Y ad u) (mSetThr t 0) hx hb hr hlocks hP hD hS dX3_look_22 (⟨by first | (simp only [fLook, b2, decide_true, decide_false, Bool.not_true, Bool.not_false, Bool.and_true, Bool.true_and, Bool.and_false, Bool.false_and, Bool.or_true, Bool.true_or, Bool.or_false, Bool.false_or, Bool.and_self, Bool.or_self, if_true, if_false, ite_true, ite_false, Bool.false_eq_true, reduceIte, not_true_eq_false, not_false_eq_true, and_true, true_and, and_false, false_and, or_true, true_or, or_false, false_or, and_self, or_self, eq_self, decide_eq_true_eq, Bool.true_eq_false, reduceCtorEq, ne_eq]; done) | (simp [fLook, b2]; done), by rfl⟩)
  · replace hr1 : r1 = 1 := by rw [hr1, b2]; rfl
    subst hr1
    refine lv_if_eq (tgt := 21) hx hb dX3_look_10 (by decide) (fun c4 => absurd c4 (by decide)) (fun _ => ?_)
    refine lv_aload_n hx hb dX3_look_13 rfl (lv_at hl 0 rfl) ?_
    refine lv_iload_n hx hb dX3_look_14 rfl (lv_at hl 2 rfl) ?_
    refine rcI (As := [.int k]) (rest := []) ⟨hx, hb, hml, hown, hts⟩ (c_X3_isObject l D Y ad (mSetThr t 0) k ) (cwV 1 hts gX3_look_X3_isObject rfl rfl rfl hdX3_isObject ⟨Nat.le_of_ble_eq_true rfl, Nat.le_of_ble_eq_true rfl⟩) hP hK 0 4 rfl rfl rfl hl.1 rfl (Nat.le_of_ble_eq_true rfl) dX3_look_15 ⟨(Nat.zero_le _), (Nat.zero_le _)⟩ (fun r5 hr5 => ?_)
    replace hr5 : r5 = bI (qObj t k) := hr5
    cases b6 : qObj t k
    · replace hr5 : r5 = 0 := by rw [hr5, b6]; rfl
      subst hr5
      refine lv_if_ne (tgt := 23) hx hb dX3_look_18 (by decide) (fun c7 => absurd (by decide) c7) (fun _ => ?_)
      refine lv_iconst (v := (-1)) hx hb dX3_look_21 (by decide) ?_
      refine W.widen (k := 0) (n := 0) (by omega) (by omega) ?_
      exact weI (wf := fun u : MS => mW Y ad u) (mSetThr t 0) hx hb hr hlocks hP hD hS dX3_look_22 (⟨by first | (simp only [fLook, b2, b6, decide_true, decide_false, Bool.not_true, Bool.not_false, Bool.and_true, Bool.true_and, Bool.and_false, Bool.false_and, Bool.or_true, Bool.true_or, Bool.or_false, Bool.false_or, Bool.and_self, Bool.or_self, if_true, if_false, ite_true, ite_false, Bool.false_eq_true, reduceIte, not_true_eq_false, not_false_eq_true, and_true, true_and, and_false, false_and, or_true, true_or, or_false, false_or, and_self, or_self, eq_self, decide_eq_true_eq, Bool.true_eq_false, reduceCtorEq, ne_eq]; done) | (simp [fLook, b2, b6]; done), by rfl⟩)
    · replace hr5 : r5 = 1 := by rw [hr5, b6]; rfl
      subst hr5
      refine lv_if_ne (tgt := 23) hx hb dX3_look_18 (by decide) (fun _ => ?_) (fun c8 => absurd c8 (by decide))
      refine lv_aload_n hx hb dX3_look_23 rfl (lv_at hl 0 rfl) ?_
      refine va_get (D := D) (ci := 4) (v := .ref (mH ad 0)) (C := RX3) (T := TX3) (N := 19) hx hb hts iwX3 hown hK hP 0 rfl rfl 4 (by decide) (hts (.fieldLink RX3 16 "ObjectRowsModel" "kinds" "[I") (by decide +kernel)) (fun _ h9 => h9) rfl dX3_look_24 ?_
      refine lv_iload_n hx hb dX3_look_27 rfl (lv_at hl 1 rfl) ?_
      refine va_iald hx hb hK hP 1 0 rfl rfl (hv d b2).1 dX3_look_28 ?_
      refine lv_topi (fun y9 ey9 => ?_)
      obtain rfl : y9 = mK t d := ey9
      refine lv_bipush (v := 7) hx hb dX3_look_29 (by decide) ?_
      refine lv_icmp_ne (tgt := 51) hx hb dX3_look_31 (by decide) (fun c10 => ?_) (fun c10 => ?_)
      · skip
        refine lv_bipush (v := (-3)) hx hb dX3_look_51 (by decide) ?_
        refine W.widen (k := 0) (n := 0) (by omega) (by omega) ?_
        exact weI (wf := fun u : MS => mW Y ad u) (mSetThr t 0) hx hb hr hlocks hP hD hS dX3_look_53 (⟨by first | (simp only [fLook, b2, b6, c10, decide_true, decide_false, Bool.not_true, Bool.not_false, Bool.and_true, Bool.true_and, Bool.and_false, Bool.false_and, Bool.or_true, Bool.true_or, Bool.or_false, Bool.false_or, Bool.and_self, Bool.or_self, if_true, if_false, ite_true, ite_false, Bool.false_eq_true, reduceIte, not_true_eq_false, not_false_eq_true, and_true, true_and, and_false, false_and, or_true, true_or, or_false, false_or, and_self, or_self, eq_self, decide_eq_true_eq, Bool.true_eq_false, reduceCtorEq, ne_eq]; done) | (simp [fLook, b2, b6, c10]; done), by rfl⟩)
      · skip
        refine lv_aload_n hx hb dX3_look_34 rfl (lv_at hl 0 rfl) ?_
        refine lv_iload_n hx hb dX3_look_35 rfl (lv_at hl 1 rfl) ?_
        refine rcI (As := [.int d]) (rest := []) ⟨hx, hb, hml, hown, hts⟩ (c_X3_accessOf l D Y ad (mSetThr t 0) d (hv d b2).1 (hv d b2).2.1) (cwV 1 hts gX3_look_X3_accessOf rfl rfl rfl hdX3_accessOf ⟨Nat.le_of_ble_eq_true rfl, Nat.le_of_ble_eq_true rfl⟩) hP hK 0 4 rfl rfl rfl hl.1 rfl (Nat.le_of_ble_eq_true rfl) dX3_look_36 ⟨(Nat.zero_le _), (Nat.zero_le _)⟩ (fun r11 hr11 => ?_)
        obtain rfl : r11 = qAcc t d := hr11
        refine lv_iconst (v := 2) hx hb dX3_look_39 (by decide) ?_
        refine lv_icmp_lt (tgt := 51) hx hb dX3_look_40 (by decide) (fun c12 => ?_) (fun c12 => ?_)
        · skip
          refine lv_bipush (v := (-3)) hx hb dX3_look_51 (by decide) ?_
          refine W.widen (k := 0) (n := 0) (by omega) (by omega) ?_
          exact weI (wf := fun u : MS => mW Y ad u) (mSetThr t 0) hx hb hr hlocks hP hD hS dX3_look_53 (⟨by first | (simp only [fLook, b2, b6, c10, c12, decide_true, decide_false, Bool.not_true, Bool.not_false, Bool.and_true, Bool.true_and, Bool.and_false, Bool.false_and, Bool.or_true, Bool.true_or, Bool.or_false, Bool.false_or, Bool.and_self, Bool.or_self, if_true, if_false, ite_true, ite_false, Bool.false_eq_true, reduceIte, not_true_eq_false, not_false_eq_true, and_true, true_and, and_false, false_and, or_true, true_or, or_false, false_or, and_self, or_self, eq_self, decide_eq_true_eq, Bool.true_eq_false, reduceCtorEq, ne_eq]; done) | (simp [fLook, b2, b6, c10, c12, Int32.not_le.mpr c12]; done) | (simp only [fLook, b2, b6, eq_true c10, c12, decide_true, decide_false, Bool.not_true, Bool.not_false, Bool.and_true, Bool.true_and, Bool.and_false, Bool.false_and, Bool.or_true, Bool.true_or, Bool.or_false, Bool.false_or, Bool.and_self, Bool.or_self, if_true, if_false, ite_true, ite_false, Bool.false_eq_true, reduceIte, not_true_eq_false, not_false_eq_true, and_true, true_and, and_false, false_and, or_true, true_or, or_false, false_or, and_self, or_self, eq_self, decide_eq_true_eq, Bool.true_eq_false, reduceCtorEq, ne_eq]; done) | (simp [fLook, b2, b6, eq_true c10, c12, Int32.not_le.mpr c12]; done), by rfl⟩)
        · skip
          refine lv_aload_n hx hb dX3_look_43 rfl (lv_at hl 0 rfl) ?_
          refine lv_iload_n hx hb dX3_look_44 rfl (lv_at hl 2 rfl) ?_
          refine rcI (As := [.int k]) (rest := []) ⟨hx, hb, hml, hown, hts⟩ (c_X3_isKey l D Y ad (mSetThr t 0) k (hv k b6).1 (hv k b6).2.1 (hv k b6).2.2.1) (cwV 1 hts gX3_look_X3_isKey rfl rfl rfl hdX3_isKey ⟨Nat.le_of_ble_eq_true rfl, Nat.le_of_ble_eq_true rfl⟩) hP hK 0 4 rfl rfl rfl hl.1 rfl (Nat.le_of_ble_eq_true rfl) dX3_look_45 ⟨(Nat.zero_le _), (Nat.zero_le _)⟩ (fun r13 hr13 => ?_)
          replace hr13 := hr13.trans (congrArg bI (qKey_cg (t := t) rfl rfl rfl rfl rfl rfl))
          replace hr13 : r13 = bI (qKey t k) := hr13
          cases b14 : qKey t k
          · replace hr13 : r13 = 0 := by rw [hr13, b14]; rfl
            subst hr13
            refine lv_if_ne (tgt := 54) hx hb dX3_look_48 (by decide) (fun c15 => absurd (by decide) c15) (fun _ => ?_)
            refine lv_bipush (v := (-3)) hx hb dX3_look_51 (by decide) ?_
            refine W.widen (k := 0) (n := 0) (by omega) (by omega) ?_
            exact weI (wf := fun u : MS => mW Y ad u) (mSetThr t 0) hx hb hr hlocks hP hD hS dX3_look_53 (⟨by first | (simp only [fLook, b2, b6, c10, c12, b14, decide_true, decide_false, Bool.not_true, Bool.not_false, Bool.and_true, Bool.true_and, Bool.and_false, Bool.false_and, Bool.or_true, Bool.true_or, Bool.or_false, Bool.false_or, Bool.and_self, Bool.or_self, if_true, if_false, ite_true, ite_false, Bool.false_eq_true, reduceIte, not_true_eq_false, not_false_eq_true, and_true, true_and, and_false, false_and, or_true, true_or, or_false, false_or, and_self, or_self, eq_self, decide_eq_true_eq, Bool.true_eq_false, reduceCtorEq, ne_eq]; done) | (simp [fLook, b2, b6, c10, c12, b14, Int32.not_lt.mp c12]; done) | (simp only [fLook, b2, b6, eq_true c10, c12, b14, decide_true, decide_false, Bool.not_true, Bool.not_false, Bool.and_true, Bool.true_and, Bool.and_false, Bool.false_and, Bool.or_true, Bool.true_or, Bool.or_false, Bool.false_or, Bool.and_self, Bool.or_self, if_true, if_false, ite_true, ite_false, Bool.false_eq_true, reduceIte, not_true_eq_false, not_false_eq_true, and_true, true_and, and_false, false_and, or_true, true_or, or_false, false_or, and_self, or_self, eq_self, decide_eq_true_eq, Bool.true_eq_false, reduceCtorEq, ne_eq]; done) | (simp [fLook, b2, b6, eq_true c10, c12, b14, Int32.not_lt.mp c12]; done), by rfl⟩)
          · replace hr13 : r13 = 1 := by rw [hr13, b14]; rfl
            subst hr13
            refine lv_if_ne (tgt := 54) hx hb dX3_look_48 (by decide) (fun _ => ?_) (fun c16 => absurd c16 (by decide))
            refine lv_aload_n hx hb dX3_look_54 rfl (lv_at hl 0 rfl) ?_
            refine lv_aload_n hx hb dX3_look_55 rfl (lv_at hl 0 rfl) ?_
            refine va_get (D := D) (ci := 4) (v := .ref (mH ad 1)) (C := RX3) (T := TX3) (N := 19) hx hb hts iwX3 hown hK hP 0 rfl rfl 5 (by decide) (hts (.fieldLink RX3 20 "ObjectRowsModel" "numbers" "[I") (by decide +kernel)) (fun _ h9 => h9) rfl dX3_look_56 ?_
            refine lv_iload_n hx hb dX3_look_59 rfl (lv_at hl 1 rfl) ?_
            refine va_iald hx hb hK hP 2 0 rfl rfl (hv d b2).1 dX3_look_60 ?_
            refine lv_topi (fun y17 ey17 => ?_)
            obtain rfl : y17 = mNu t d := ey17
            refine lv_aload_n hx hb dX3_look_61 rfl (lv_at hl 0 rfl) ?_
            refine lv_iload_n hx hb dX3_look_62 rfl (lv_at hl 2 rfl) ?_
            refine rcL (As := [.int k]) (rest := [.int (mNu t d), .ref (mO ad)]) ⟨hx, hb, hml, hown, hts⟩ (c_X3_code l D Y ad (mSetThr t 0) k (hv k b6).1 (hv k b6).2.1 (hv k b6).2.2.1) (cwV 1 hts gX3_look_X3_code rfl rfl rfl hdX3_code ⟨Nat.le_of_ble_eq_true rfl, Nat.le_of_ble_eq_true rfl⟩) hP hK 0 4 rfl rfl rfl hl.1 rfl (Nat.le_of_ble_eq_true rfl) dX3_look_63 ⟨(Nat.zero_le _), (Nat.zero_le _)⟩ (fun r18 hr18 => ?_)
            replace hr18 := hr18.trans (qCode_cg (t := t) rfl rfl rfl rfl rfl rfl)
            obtain rfl : r18 = qCode t k := hr18
            refine rcI (As := [.int (mNu t d), .long (qCode t k)]) (rest := []) ⟨hx, hb, hml, hown, hts⟩ (c_X3_placeOf l D Y ad (mSetThr t 0) (mNu t d) (qCode t k) ((hv d b2).2.2.2.2.2 c10).1 ((hv d b2).2.2.2.2.2 c10).2.1) (cwV 2 hts gX3_look_X3_placeOf rfl rfl rfl hdX3_placeOf ⟨Nat.le_of_ble_eq_true rfl, Nat.le_of_ble_eq_true rfl⟩) hP hK 0 4 rfl rfl rfl hl.1 rfl (Nat.le_of_ble_eq_true rfl) dX3_look_66 ⟨(Nat.zero_le _), (Nat.zero_le _)⟩ (fun r19 hr19 => ?_)
            replace hr19 := hr19.trans (qPlace_cg (t := t) rfl rfl)
            obtain rfl : r19 = qPlace t (mNu t d) (qCode t k) := hr19
            refine lv_istore_n (lv' := [(3, .int (qPlace t (mNu t d) (qCode t k))), (0, .ref (mO ad)), (1, .int d), (2, .int k)]) hx hb dX3_look_69 rfl hl (by decide) rfl (fun ls hl => ?_)
            refine lv_iload_n hx hb dX3_look_70 rfl (lv_at hl 0 rfl) ?_
            refine lv_if_ge (tgt := 79) hx hb dX3_look_71 (by decide) (fun c20 => ?_) (fun c20 => ?_)
            · skip
              refine lv_aload_n hx hb dX3_look_79 rfl (lv_at hl 1 rfl) ?_
              refine va_get (D := D) (ci := 4) (v := .ref (mH ad 12)) (C := RX3) (T := TX3) (N := 19) hx hb hts iwX3 hown hK hP 0 rfl rfl 16 (by decide) (hts (.fieldLink RX3 56 "ObjectRowsModel" "values" "[I") (by decide +kernel)) (fun _ h9 => h9) rfl dX3_look_80 ?_
              refine lv_iload_n hx hb dX3_look_83 rfl (lv_at hl 0 rfl) ?_
              refine va_iald hx hb hK hP 13 0 rfl rfl (((hv d b2).2.2.2.2.2 c10).2.2 _ c20) dX3_look_84 ?_
              refine lv_topi (fun y21 ey21 => ?_)
              obtain rfl : y21 = mVa t (qPlace t (mNu t d) (qCode t k)) := ey21
              refine W.widen (k := 0) (n := 0) (by omega) (by omega) ?_
              exact weI (wf := fun u : MS => mW Y ad u) (mSetThr t 0) hx hb hr hlocks hP hD hS dX3_look_85 (⟨by first | (simp only [fLook, b2, b6, c10, c12, b14, c20, decide_true, decide_false, Bool.not_true, Bool.not_false, Bool.and_true, Bool.true_and, Bool.and_false, Bool.false_and, Bool.or_true, Bool.true_or, Bool.or_false, Bool.false_or, Bool.and_self, Bool.or_self, if_true, if_false, ite_true, ite_false, Bool.false_eq_true, reduceIte, not_true_eq_false, not_false_eq_true, and_true, true_and, and_false, false_and, or_true, true_or, or_false, false_or, and_self, or_self, eq_self, decide_eq_true_eq, Bool.true_eq_false, reduceCtorEq, ne_eq]; done) | (simp [fLook, b2, b6, c10, c12, b14, c20, Int32.not_lt.mp c12, Int32.not_lt.mpr c20]; done) | (simp only [fLook, b2, b6, eq_true c10, c12, b14, c20, decide_true, decide_false, Bool.not_true, Bool.not_false, Bool.and_true, Bool.true_and, Bool.and_false, Bool.false_and, Bool.or_true, Bool.true_or, Bool.or_false, Bool.false_or, Bool.and_self, Bool.or_self, if_true, if_false, ite_true, ite_false, Bool.false_eq_true, reduceIte, not_true_eq_false, not_false_eq_true, and_true, true_and, and_false, false_and, or_true, true_or, or_false, false_or, and_self, or_self, eq_self, decide_eq_true_eq, Bool.true_eq_false, reduceCtorEq, ne_eq]; done) | (simp [fLook, b2, b6, eq_true c10, c12, b14, c20, Int32.not_lt.mp c12, Int32.not_lt.mpr c20]; done), by rfl⟩)
            · skip
              refine lv_bipush (v := (-5)) hx hb dX3_look_74 (by decide) ?_
              refine lv_goto (tgt := 85) hx hb dX3_look_76 (by decide) ?_
              refine W.widen (k := 0) (n := 0) (by omega) (by omega) ?_
              exact weI (wf := fun u : MS => mW Y ad u) (mSetThr t 0) hx hb hr hlocks hP hD hS dX3_look_85 (⟨by first | (simp only [fLook, b2, b6, c10, c12, b14, c20, decide_true, decide_false, Bool.not_true, Bool.not_false, Bool.and_true, Bool.true_and, Bool.and_false, Bool.false_and, Bool.or_true, Bool.true_or, Bool.or_false, Bool.false_or, Bool.and_self, Bool.or_self, if_true, if_false, ite_true, ite_false, Bool.false_eq_true, reduceIte, not_true_eq_false, not_false_eq_true, and_true, true_and, and_false, false_and, or_true, true_or, or_false, false_or, and_self, or_self, eq_self, decide_eq_true_eq, Bool.true_eq_false, reduceCtorEq, ne_eq]; done) | (simp [fLook, b2, b6, c10, c12, b14, c20, Int32.not_lt.mp c12, Int32.not_le.mp c20]; done) | (simp only [fLook, b2, b6, eq_true c10, c12, b14, c20, decide_true, decide_false, Bool.not_true, Bool.not_false, Bool.and_true, Bool.true_and, Bool.and_false, Bool.false_and, Bool.or_true, Bool.true_or, Bool.or_false, Bool.false_or, Bool.and_self, Bool.or_self, if_true, if_false, ite_true, ite_false, Bool.false_eq_true, reduceIte, not_true_eq_false, not_false_eq_true, and_true, true_and, and_false, false_and, or_true, true_or, or_false, false_or, and_self, or_self, eq_self, decide_eq_true_eq, Bool.true_eq_false, reduceCtorEq, ne_eq]; done) | (simp [fLook, b2, b6, eq_true c10, c12, b14, c20, Int32.not_lt.mp c12, Int32.not_le.mp c20]; done), by rfl⟩)
theorem hdX3_look : yX3_look.cls = RX3 ∧ yX3_look.cls ≠ "java/lang/invoke/MethodHandle" ∧ yX3_look.cls ≠ "java/lang/invoke/VarHandle" ∧ (parseMethodDescriptor yX3_look.desc).map (fun d => d.parameters.length) = some 2 := by decide +kernel
set_option maxHeartbeats 4000000 in
set_option maxRecDepth 100000 in
theorem c_X3_get (l : Launch) (D : va_G) (Y : Nat → ClassId) (ad : MA) (t : MS) (sz : Nat) (o : Int32) (i : Int32) (hv : ∀ o, qObj t o = true → mV t o) : Met l yX3_get wsX3_get ({ frames := 2, cells := 0, slots := 0, locals := 43 }) (wrPc D Y [.ref (mO ad), .int o, .int i] (mW Y ad t) sz) (va_Qi (fun (ans : Int32) (u : MS) => ans = fGet t o i ∧ u = mSetThr t (fThr t o i)) (wrB D (va_A (mW Y ad t) sz) (fun u : MS => mW Y ad u)) (va_A (mW Y ad t) sz)) (0) (0) (va_A (mW Y ad t) sz) := by
  refine wrOf (Qc := fun A => va_Qi (fun (ans : Int32) (u : MS) => ans = fGet t o i ∧ u = mSetThr t (fThr t o i)) (wrB D A (fun u : MS => mW Y ad u)) A) (cc := cX3_get) (maxL := 3) (ret := (some .int)) (own := RX3) (by decide) rfl rfl (Nat.le_of_ble_eq_true rfl) ?_
  intro p e s m below meth c ls A hx hb hr hts hown hml hlocks hin hA hP hD hS hK hl
  have iwX3 : ∀ w ∈ u_ws RX3 TX3 19, w ∈ wsX3_get := fun _ h => List.mem_cons_of_mem _ (List.mem_append_right _ h)
  have hl : lv_has ls 3 [(0, .ref (mO ad)), (1, .int o), (2, .int i)] := hl
  have hS : va_S A s.heap s.heap [] := hS
  refine lv_aload_n hx hb dX3_get_0 rfl (lv_at hl 0 rfl) ?_
  refine lv_iconst (v := 0) hx hb dX3_get_1 (by decide) ?_
  refine mFput0 (ad := ad) hx hb hts iwX3 hown hK hP hD hS (hts (.fieldLink RX3 65 "ObjectRowsModel" "thrown" "I") (by decide +kernel)) dX3_get_2 (fun H locs hP hD hS => ?_)
  refine lv_aload_n hx hb dX3_get_5 rfl (lv_at hl 0 rfl) ?_
  refine lv_iload_n hx hb dX3_get_6 rfl (lv_at hl 1 rfl) ?_
  refine rcI (As := [.int o]) (rest := []) ⟨hx, hb, hml, hown, hts⟩ (c_X3_isObject l D Y ad (mSetThr t 0) o ) (cwV 1 hts gX3_get_X3_isObject rfl rfl rfl hdX3_isObject ⟨Nat.le_of_ble_eq_true rfl, Nat.le_of_ble_eq_true rfl⟩) hP hK 0 4 rfl rfl rfl hl.1 rfl (Nat.le_of_ble_eq_true rfl) dX3_get_7 ⟨(Nat.zero_le _), (Nat.zero_le _)⟩ (fun r1 hr1 => ?_)
  replace hr1 : r1 = bI (qObj t o) := hr1
  cases b2 : qObj t o
  · replace hr1 : r1 = 0 := by rw [hr1, b2]; rfl
    subst hr1
    refine lv_if_ne (tgt := 15) hx hb dX3_get_10 (by decide) (fun c3 => absurd (by decide) c3) (fun _ => ?_)
    refine lv_iconst (v := (-1)) hx hb dX3_get_13 (by decide) ?_
    refine W.widen (k := 0) (n := 0) (by omega) (by omega) ?_
    exact weI (wf := fun u : MS => mW Y ad u) (mSetThr t 0) hx hb hr hlocks hP hD hS dX3_get_14 (⟨by first | (simp only [fGet, b2, decide_true, decide_false, Bool.not_true, Bool.not_false, Bool.and_true, Bool.true_and, Bool.and_false, Bool.false_and, Bool.or_true, Bool.true_or, Bool.or_false, Bool.false_or, Bool.and_self, Bool.or_self, if_true, if_false, ite_true, ite_false, Bool.false_eq_true, reduceIte, not_true_eq_false, not_false_eq_true, and_true, true_and, and_false, false_and, or_true, true_or, or_false, false_or, and_self, or_self, eq_self, decide_eq_true_eq, Bool.true_eq_false, reduceCtorEq, ne_eq]; done) | (simp [fGet, b2]; done), by first | (simp only [fThr, b2, decide_true, decide_false, Bool.not_true, Bool.not_false, Bool.and_true, Bool.true_and, Bool.and_false, Bool.false_and, Bool.or_true, Bool.true_or, Bool.or_false, Bool.false_or, Bool.and_self, Bool.or_self, if_true, if_false, ite_true, ite_false, Bool.false_eq_true, reduceIte, not_true_eq_false, not_false_eq_true, and_true, true_and, and_false, false_and, or_true, true_or, or_false, false_or, and_self, or_self, eq_self, decide_eq_true_eq, Bool.true_eq_false, reduceCtorEq, ne_eq]; done) | (simp [fThr, b2]; done)⟩)
  · replace hr1 : r1 = 1 := by rw [hr1, b2]; rfl
    subst hr1
    refine lv_if_ne (tgt := 15) hx hb dX3_get_10 (by decide) (fun _ => ?_) (fun c4 => absurd c4 (by decide))
    refine lv_aload_n hx hb dX3_get_15 rfl (lv_at hl 0 rfl) ?_
    refine lv_iload_n hx hb dX3_get_16 rfl (lv_at hl 1 rfl) ?_
    refine rcI (As := [.int o]) (rest := []) ⟨hx, hb, hml, hown, hts⟩ (c_X3_isView l D Y ad (mSetThr t 0) o (hv o b2).1) (cwV 1 hts gX3_get_X3_isView rfl rfl rfl hdX3_isView ⟨Nat.le_of_ble_eq_true rfl, Nat.le_of_ble_eq_true rfl⟩) hP hK 0 4 rfl rfl rfl hl.1 rfl (Nat.le_of_ble_eq_true rfl) dX3_get_17 ⟨(Nat.zero_le _), (Nat.zero_le _)⟩ (fun r5 hr5 => ?_)
    replace hr5 : r5 = bI (qView t o) := hr5
    cases b6 : qView t o
    · replace hr5 : r5 = 0 := by rw [hr5, b6]; rfl
      subst hr5
      refine lv_if_eq (tgt := 32) hx hb dX3_get_20 (by decide) (fun _ => ?_) (fun c7 => absurd (by decide) c7)
      refine lv_bipush (v := (-3)) hx hb dX3_get_32 (by decide) ?_
      refine W.widen (k := 0) (n := 0) (by omega) (by omega) ?_
      exact weI (wf := fun u : MS => mW Y ad u) (mSetThr t 0) hx hb hr hlocks hP hD hS dX3_get_34 (⟨by first | (simp only [fGet, b2, b6, decide_true, decide_false, Bool.not_true, Bool.not_false, Bool.and_true, Bool.true_and, Bool.and_false, Bool.false_and, Bool.or_true, Bool.true_or, Bool.or_false, Bool.false_or, Bool.and_self, Bool.or_self, if_true, if_false, ite_true, ite_false, Bool.false_eq_true, reduceIte, not_true_eq_false, not_false_eq_true, and_true, true_and, and_false, false_and, or_true, true_or, or_false, false_or, and_self, or_self, eq_self, decide_eq_true_eq, Bool.true_eq_false, reduceCtorEq, ne_eq]; done) | (simp [fGet, b2, b6]; done), by first | (simp only [fThr, b2, b6, decide_true, decide_false, Bool.not_true, Bool.not_false, Bool.and_true, Bool.true_and, Bool.and_false, Bool.false_and, Bool.or_true, Bool.true_or, Bool.or_false, Bool.false_or, Bool.and_self, Bool.or_self, if_true, if_false, ite_true, ite_false, Bool.false_eq_true, reduceIte, not_true_eq_false, not_false_eq_true, and_true, true_and, and_false, false_and, or_true, true_or, or_false, false_or, and_self, or_self, eq_self, decide_eq_true_eq, Bool.true_eq_false, reduceCtorEq, ne_eq]; done) | (simp [fThr, b2, b6]; done)⟩)
    · replace hr5 : r5 = 1 := by rw [hr5, b6]; rfl
      subst hr5
      refine lv_if_eq (tgt := 32) hx hb dX3_get_20 (by decide) (fun c8 => absurd c8 (by decide)) (fun _ => ?_)
      refine lv_aload_n hx hb dX3_get_23 rfl (lv_at hl 0 rfl) ?_
      refine lv_iload_n hx hb dX3_get_24 rfl (lv_at hl 1 rfl) ?_
      refine rcI (As := [.int o]) (rest := []) ⟨hx, hb, hml, hown, hts⟩ (c_X3_accessOf l D Y ad (mSetThr t 0) o (hv o b2).1 (hv o b2).2.1) (cwV 1 hts gX3_get_X3_accessOf rfl rfl rfl hdX3_accessOf ⟨Nat.le_of_ble_eq_true rfl, Nat.le_of_ble_eq_true rfl⟩) hP hK 0 4 rfl rfl rfl hl.1 rfl (Nat.le_of_ble_eq_true rfl) dX3_get_25 ⟨(Nat.zero_le _), (Nat.zero_le _)⟩ (fun r9 hr9 => ?_)
      obtain rfl : r9 = qAcc t o := hr9
      refine lv_iconst (v := 2) hx hb dX3_get_28 (by decide) ?_
      refine lv_icmp_ge (tgt := 35) hx hb dX3_get_29 (by decide) (fun c10 => ?_) (fun c10 => ?_)
      · skip
        refine lv_iload_n hx hb dX3_get_35 rfl (lv_at hl 2 rfl) ?_
        refine lv_iconst (v := 0) hx hb dX3_get_36 (by decide) ?_
        refine lv_aload_n hx hb dX3_get_37 rfl (lv_at hl 0 rfl) ?_
        refine va_get (D := D) (ci := 4) (v := .ref (mH ad 3)) (C := RX3) (T := TX3) (N := 19) hx hb hts iwX3 hown hK hP 0 rfl rfl 7 (by decide) (hts (.fieldLink RX3 26 "ObjectRowsModel" "lengths" "[I") (by decide +kernel)) (fun _ h9 => h9) rfl dX3_get_38 ?_
        refine lv_iload_n hx hb dX3_get_41 rfl (lv_at hl 1 rfl) ?_
        refine va_iald hx hb hK hP 4 0 rfl rfl (hv o b2).1 dX3_get_42 ?_
        refine lv_topi (fun y11 ey11 => ?_)
        obtain rfl : y11 = mL t o := ey11
        refine lv_iconst (v := 1) hx hb dX3_get_43 (by decide) ?_
        refine lv_isub hx hb dX3_get_44 ?_
        refine scI (As := [.int i, .int 0, .int ((mL t o) - 1)]) (rest := []) ⟨hx, hb, hml, hown, hts⟩ (c_X3_within l i 0 ((mL t o) - 1)) (va_cwS 3 hts gX3_get_X3_within rfl rfl rfl hdX3_within ⟨Nat.le_of_ble_eq_true rfl, Nat.le_of_ble_eq_true rfl⟩) rfl hl.1 rfl (Nat.le_of_ble_eq_true rfl) dX3_get_45 ⟨(Nat.zero_le _), (Nat.zero_le _)⟩ (fun r12 hr12 => ?_)
        replace hr12 : r12 = bI (qWithin i 0 ((mL t o) - 1)) := hr12
        cases b13 : qWithin i 0 ((mL t o) - 1)
        · replace hr12 : r12 = 0 := by rw [hr12, b13]; rfl
          subst hr12
          refine lv_if_ne (tgt := 58) hx hb dX3_get_48 (by decide) (fun c14 => absurd (by decide) c14) (fun _ => ?_)
          refine lv_aload_n hx hb dX3_get_51 rfl (lv_at hl 0 rfl) ?_
          refine lv_iconst (v := 1) hx hb dX3_get_52 (by decide) ?_
          refine mFput0 (ad := ad) hx hb hts iwX3 hown hK hP hD hS (hts (.fieldLink RX3 65 "ObjectRowsModel" "thrown" "I") (by decide +kernel)) dX3_get_53 (fun H locs hP hD hS => ?_)
          refine lv_iconst (v := 0) hx hb dX3_get_56 (by decide) ?_
          refine W.widen (k := 0) (n := 0) (by omega) (by omega) ?_
          exact weI (wf := fun u : MS => mW Y ad u) (mSetThr (mSetThr t 0) 1) hx hb hr hlocks hP hD hS dX3_get_57 (⟨by first | (simp only [fGet, b2, b6, c10, b13, decide_true, decide_false, Bool.not_true, Bool.not_false, Bool.and_true, Bool.true_and, Bool.and_false, Bool.false_and, Bool.or_true, Bool.true_or, Bool.or_false, Bool.false_or, Bool.and_self, Bool.or_self, if_true, if_false, ite_true, ite_false, Bool.false_eq_true, reduceIte, not_true_eq_false, not_false_eq_true, and_true, true_and, and_false, false_and, or_true, true_or, or_false, false_or, and_self, or_self, eq_self, decide_eq_true_eq, Bool.true_eq_false, reduceCtorEq, ne_eq]; done) | (simp [fGet, b2, b6, c10, b13, Int32.not_lt.mpr c10]; done), by first | (simp only [fThr, b2, b6, c10, b13, decide_true, decide_false, Bool.not_true, Bool.not_false, Bool.and_true, Bool.true_and, Bool.and_false, Bool.false_and, Bool.or_true, Bool.true_or, Bool.or_false, Bool.false_or, Bool.and_self, Bool.or_self, if_true, if_false, ite_true, ite_false, Bool.false_eq_true, reduceIte, not_true_eq_false, not_false_eq_true, and_true, true_and, and_false, false_and, or_true, true_or, or_false, false_or, and_self, or_self, eq_self, decide_eq_true_eq, Bool.true_eq_false, reduceCtorEq, ne_eq]; done) | (simp [fThr, b2, b6, c10, b13, Int32.not_lt.mpr c10]; done)⟩)
        · replace hr12 : r12 = 1 := by rw [hr12, b13]; rfl
          subst hr12
          refine lv_if_ne (tgt := 58) hx hb dX3_get_48 (by decide) (fun _ => ?_) (fun c15 => absurd c15 (by decide))
          refine lv_aload_n hx hb dX3_get_58 rfl (lv_at hl 0 rfl) ?_
          refine va_get (D := D) (ci := 4) (v := .ref (mH ad 0)) (C := RX3) (T := TX3) (N := 19) hx hb hts iwX3 hown hK hP 0 rfl rfl 4 (by decide) (hts (.fieldLink RX3 16 "ObjectRowsModel" "kinds" "[I") (by decide +kernel)) (fun _ h9 => h9) rfl dX3_get_59 ?_
          refine lv_iload_n hx hb dX3_get_62 rfl (lv_at hl 1 rfl) ?_
          refine va_iald hx hb hK hP 1 0 rfl rfl (hv o b2).1 dX3_get_63 ?_
          refine lv_topi (fun y16 ey16 => ?_)
          obtain rfl : y16 = mK t o := ey16
          refine lv_iconst (v := 4) hx hb dX3_get_64 (by decide) ?_
          refine lv_icmp_ne (tgt := 77) hx hb dX3_get_65 (by decide) (fun c17 => ?_) (fun c17 => ?_)
          · skip
            refine lv_aload_n hx hb dX3_get_77 rfl (lv_at hl 0 rfl) ?_
            refine va_get (D := D) (ci := 4) (v := .ref (mH ad 7)) (C := RX3) (T := TX3) (N := 19) hx hb hts iwX3 hown hK hP 0 rfl rfl 11 (by decide) (hts (.fieldLink RX3 40 "ObjectRowsModel" "elements" "[I") (by decide +kernel)) (fun _ h9 => h9) rfl dX3_get_78 ?_
            refine lv_bipush (v := 32) hx hb dX3_get_81 (by decide) ?_
            refine lv_aload_n hx hb dX3_get_83 rfl (lv_at hl 0 rfl) ?_
            refine va_get (D := D) (ci := 4) (v := .ref (mH ad 1)) (C := RX3) (T := TX3) (N := 19) hx hb hts iwX3 hown hK hP 0 rfl rfl 5 (by decide) (hts (.fieldLink RX3 20 "ObjectRowsModel" "numbers" "[I") (by decide +kernel)) (fun _ h9 => h9) rfl dX3_get_84 ?_
            refine lv_iload_n hx hb dX3_get_87 rfl (lv_at hl 1 rfl) ?_
            refine va_iald hx hb hK hP 2 0 rfl rfl (hv o b2).1 dX3_get_88 ?_
            refine lv_topi (fun y18 ey18 => ?_)
            obtain rfl : y18 = mNu t o := ey18
            refine lv_imul hx hb dX3_get_89 ?_
            refine lv_aload_n hx hb dX3_get_90 rfl (lv_at hl 0 rfl) ?_
            refine va_get (D := D) (ci := 4) (v := .ref (mH ad 2)) (C := RX3) (T := TX3) (N := 19) hx hb hts iwX3 hown hK hP 0 rfl rfl 6 (by decide) (hts (.fieldLink RX3 23 "ObjectRowsModel" "froms" "[I") (by decide +kernel)) (fun _ h9 => h9) rfl dX3_get_91 ?_
            refine lv_iload_n hx hb dX3_get_94 rfl (lv_at hl 1 rfl) ?_
            refine va_iald hx hb hK hP 3 0 rfl rfl (hv o b2).1 dX3_get_95 ?_
            refine lv_topi (fun y19 ey19 => ?_)
            obtain rfl : y19 = mFr t o := ey19
            refine lv_iadd hx hb dX3_get_96 ?_
            refine lv_iload_n hx hb dX3_get_97 rfl (lv_at hl 2 rfl) ?_
            refine lv_iadd hx hb dX3_get_98 ?_
            refine va_iald hx hb hK hP 8 0 rfl rfl ((hv o b2).2.2.2.2.1 b6 c17 i ((hv o b2).2.2.2.1 b6 i b13).1 ((hv o b2).2.2.2.1 b6 i b13).2) dX3_get_99 ?_
            refine lv_topi (fun y20 ey20 => ?_)
            obtain rfl : y20 = mEl t (((32 * (mNu t o)) + (mFr t o)) + i) := ey20
            refine W.widen (k := 0) (n := 0) (by omega) (by omega) ?_
            exact weI (wf := fun u : MS => mW Y ad u) (mSetThr t 0) hx hb hr hlocks hP hD hS dX3_get_100 (⟨by first | (simp only [fGet, b2, b6, c10, b13, c17, decide_true, decide_false, Bool.not_true, Bool.not_false, Bool.and_true, Bool.true_and, Bool.and_false, Bool.false_and, Bool.or_true, Bool.true_or, Bool.or_false, Bool.false_or, Bool.and_self, Bool.or_self, if_true, if_false, ite_true, ite_false, Bool.false_eq_true, reduceIte, not_true_eq_false, not_false_eq_true, and_true, true_and, and_false, false_and, or_true, true_or, or_false, false_or, and_self, or_self, eq_self, decide_eq_true_eq, Bool.true_eq_false, reduceCtorEq, ne_eq]; done) | (simp [fGet, b2, b6, c10, b13, c17, Int32.not_lt.mpr c10]; done), by first | (simp only [fThr, b2, b6, c10, b13, c17, decide_true, decide_false, Bool.not_true, Bool.not_false, Bool.and_true, Bool.true_and, Bool.and_false, Bool.false_and, Bool.or_true, Bool.true_or, Bool.or_false, Bool.false_or, Bool.and_self, Bool.or_self, if_true, if_false, ite_true, ite_false, Bool.false_eq_true, reduceIte, not_true_eq_false, not_false_eq_true, and_true, true_and, and_false, false_and, or_true, true_or, or_false, false_or, and_self, or_self, eq_self, decide_eq_true_eq, Bool.true_eq_false, reduceCtorEq, ne_eq]; done) | (simp [fThr, b2, b6, c10, b13, c17, Int32.not_lt.mpr c10]; done)⟩)
          · skip
            refine lv_aload_n hx hb dX3_get_68 rfl (lv_at hl 0 rfl) ?_
            refine lv_iload_n hx hb dX3_get_69 rfl (lv_at hl 1 rfl) ?_
            refine lv_iload_n hx hb dX3_get_70 rfl (lv_at hl 2 rfl) ?_
            refine rcI (As := [.int o, .int i]) (rest := []) ⟨hx, hb, hml, hown, hts⟩ (c_X3_byteOf l D Y ad (mSetThr t 0) o i (hv o b2).1 ((hv o b2).2.2.1 c17 i ((hv o b2).2.2.2.1 b6 i b13).1 ((hv o b2).2.2.2.1 b6 i b13).2)) (cwV 2 hts gX3_get_X3_byteOf rfl rfl rfl hdX3_byteOf ⟨Nat.le_of_ble_eq_true rfl, Nat.le_of_ble_eq_true rfl⟩) hP hK 0 4 rfl rfl rfl hl.1 rfl (Nat.le_of_ble_eq_true rfl) dX3_get_71 ⟨(Nat.zero_le _), (Nat.zero_le _)⟩ (fun r21 hr21 => ?_)
            obtain rfl : r21 = qByte t o i := hr21
            refine lv_goto (tgt := 100) hx hb dX3_get_74 (by decide) ?_
            refine W.widen (k := 0) (n := 0) (by omega) (by omega) ?_
            exact weI (wf := fun u : MS => mW Y ad u) (mSetThr t 0) hx hb hr hlocks hP hD hS dX3_get_100 (⟨by first | (simp only [fGet, b2, b6, c10, b13, c17, decide_true, decide_false, Bool.not_true, Bool.not_false, Bool.and_true, Bool.true_and, Bool.and_false, Bool.false_and, Bool.or_true, Bool.true_or, Bool.or_false, Bool.false_or, Bool.and_self, Bool.or_self, if_true, if_false, ite_true, ite_false, Bool.false_eq_true, reduceIte, not_true_eq_false, not_false_eq_true, and_true, true_and, and_false, false_and, or_true, true_or, or_false, false_or, and_self, or_self, eq_self, decide_eq_true_eq, Bool.true_eq_false, reduceCtorEq, ne_eq]; done) | (simp [fGet, b2, b6, c10, b13, c17, Int32.not_lt.mpr c10]; done) | (simp only [fGet, b2, b6, c10, b13, eq_true c17, decide_true, decide_false, Bool.not_true, Bool.not_false, Bool.and_true, Bool.true_and, Bool.and_false, Bool.false_and, Bool.or_true, Bool.true_or, Bool.or_false, Bool.false_or, Bool.and_self, Bool.or_self, if_true, if_false, ite_true, ite_false, Bool.false_eq_true, reduceIte, not_true_eq_false, not_false_eq_true, and_true, true_and, and_false, false_and, or_true, true_or, or_false, false_or, and_self, or_self, eq_self, decide_eq_true_eq, Bool.true_eq_false, reduceCtorEq, ne_eq]; done) | (simp [fGet, b2, b6, c10, b13, eq_true c17, Int32.not_lt.mpr c10]; done), by first | (simp only [fThr, b2, b6, c10, b13, c17, decide_true, decide_false, Bool.not_true, Bool.not_false, Bool.and_true, Bool.true_and, Bool.and_false, Bool.false_and, Bool.or_true, Bool.true_or, Bool.or_false, Bool.false_or, Bool.and_self, Bool.or_self, if_true, if_false, ite_true, ite_false, Bool.false_eq_true, reduceIte, not_true_eq_false, not_false_eq_true, and_true, true_and, and_false, false_and, or_true, true_or, or_false, false_or, and_self, or_self, eq_self, decide_eq_true_eq, Bool.true_eq_false, reduceCtorEq, ne_eq]; done) | (simp [fThr, b2, b6, c10, b13, c17, Int32.not_lt.mpr c10]; done) | (simp only [fThr, b2, b6, c10, b13, eq_true c17, decide_true, decide_false, Bool.not_true, Bool.not_false, Bool.and_true, Bool.true_and, Bool.and_false, Bool.false_and, Bool.or_true, Bool.true_or, Bool.or_false, Bool.false_or, Bool.and_self, Bool.or_self, if_true, if_false, ite_true, ite_false, Bool.false_eq_true, reduceIte, not_true_eq_false, not_false_eq_true, and_true, true_and, and_false, false_and, or_true, true_or, or_false, false_or, and_self, or_self, eq_self, decide_eq_true_eq, Bool.true_eq_false, reduceCtorEq, ne_eq]; done) | (simp [fThr, b2, b6, c10, b13, eq_true c17, Int32.not_lt.mpr c10]; done)⟩)
      · skip
        refine lv_bipush (v := (-3)) hx hb dX3_get_32 (by decide) ?_
        refine W.widen (k := 0) (n := 0) (by omega) (by omega) ?_
        exact weI (wf := fun u : MS => mW Y ad u) (mSetThr t 0) hx hb hr hlocks hP hD hS dX3_get_34 (⟨by first | (simp only [fGet, b2, b6, c10, decide_true, decide_false, Bool.not_true, Bool.not_false, Bool.and_true, Bool.true_and, Bool.and_false, Bool.false_and, Bool.or_true, Bool.true_or, Bool.or_false, Bool.false_or, Bool.and_self, Bool.or_self, if_true, if_false, ite_true, ite_false, Bool.false_eq_true, reduceIte, not_true_eq_false, not_false_eq_true, and_true, true_and, and_false, false_and, or_true, true_or, or_false, false_or, and_self, or_self, eq_self, decide_eq_true_eq, Bool.true_eq_false, reduceCtorEq, ne_eq]; done) | (simp [fGet, b2, b6, c10, Int32.not_le.mp c10]; done), by first | (simp only [fThr, b2, b6, c10, decide_true, decide_false, Bool.not_true, Bool.not_false, Bool.and_true, Bool.true_and, Bool.and_false, Bool.false_and, Bool.or_true, Bool.true_or, Bool.or_false, Bool.false_or, Bool.and_self, Bool.or_self, if_true, if_false, ite_true, ite_false, Bool.false_eq_true, reduceIte, not_true_eq_false, not_false_eq_true, and_true, true_and, and_false, false_and, or_true, true_or, or_false, false_or, and_self, or_self, eq_self, decide_eq_true_eq, Bool.true_eq_false, reduceCtorEq, ne_eq]; done) | (simp [fThr, b2, b6, c10, Int32.not_le.mp c10]; done)⟩)
theorem hdX3_get : yX3_get.cls = RX3 ∧ yX3_get.cls ≠ "java/lang/invoke/MethodHandle" ∧ yX3_get.cls ≠ "java/lang/invoke/VarHandle" ∧ (parseMethodDescriptor yX3_get.desc).map (fun d => d.parameters.length) = some 2 := by decide +kernel
