theorem w012 {w : Int32} (h : qWithin w 0 2 = true) (h0 : ¬ w = 0) (h1 : ¬ w = 1) (h2 : ¬ w = 2) : False := by
  simp only [qWithin, Bool.and_eq_true, Bool.not_eq_true', decide_eq_false_iff_not] at h
  have a0 := neI (a := 0) h0 (by decide)
  have a1 := neI (a := 1) h1 (by decide)
  have a2 := neI (a := 2) h2 (by decide)
  have b0 := Int32.le_iff_toInt_le.mp (Int32.not_lt.mp h.1)
  have b1 := Int32.le_iff_toInt_le.mp (Int32.not_lt.mp h.2)
  rw [show (0 : Int32).toInt = 0 from rfl] at b0
  rw [show (2 : Int32).toInt = 2 from rfl] at b1
  omega
theorem qV4 {t : MS} {o : Int32} (h : mK t o = 4) : qView t o = true := by rw [qView, h]; decide
theorem qV5 {t : MS} {o : Int32} (h : mK t o = 5) : qView t o = true := by rw [qView, h]; decide
set_option maxHeartbeats 4000000 in
set_option maxRecDepth 100000 in
theorem c_X3_put (l : Launch) (D : va_G) (Y : Nat → ClassId) (ad : MA) (t : MS) (sz : Nat) (o : Int32) (i : Int32) (v : Int32) (hv : ∀ o, qObj t o = true → mV t o)  : Met l yX3_put wsX3_put ({ frames := 2, cells := 0, slots := 0, locals := 42 }) (wrPc D Y [.ref (mO ad), .int o, .int i, .int v] (mW Y ad t) sz) (va_Qi (fun (ans : Int32) (u : MS) => ans = (fPut t o i v).1 ∧ u = (fPut t o i v).2) (wrB D (va_A (mW Y ad t) sz) (fun u : MS => mW Y ad u)) (va_A (mW Y ad t) sz)) (0) (0) (va_A (mW Y ad t) sz) := by
  refine wrOf (Qc := fun A => va_Qi (fun (ans : Int32) (u : MS) => ans = (fPut t o i v).1 ∧ u = (fPut t o i v).2) (wrB D A (fun u : MS => mW Y ad u)) A) (cc := cX3_put) (maxL := 5) (ret := (some .int)) (own := RX3) (by decide) rfl rfl (Nat.le_of_ble_eq_true rfl) ?_
  intro p e s m below meth c ls A hx hb hr hts hown hml hlocks hin hA hP hD hS hK hl
  have iwX3 : ∀ w ∈ u_ws RX3 TX3 19, w ∈ wsX3_put := fun _ h => List.mem_cons_of_mem _ (List.mem_append_right _ h)
  have hl : lv_has ls 5 [(0, .ref (mO ad)), (1, .int o), (2, .int i), (3, .int v)] := hl
  have hS : va_S A s.heap s.heap [] := hS
  refine lv_aload_n hx hb dX3_put_0 rfl (lv_at hl 0 rfl) ?_
  refine lv_iconst (v := 0) hx hb dX3_put_1 (by decide) ?_
  refine mFput0 (ad := ad) hx hb hts iwX3 hown hK hP hD hS (hts (.fieldLink RX3 65 "ObjectRowsModel" "thrown" "I") (by decide +kernel)) dX3_put_2 (fun H locs hP hD hS => ?_)
  refine lv_aload_n hx hb dX3_put_5 rfl (lv_at hl 0 rfl) ?_
  refine lv_iload_n hx hb dX3_put_6 rfl (lv_at hl 1 rfl) ?_
  refine rcI (As := [.int o]) (rest := []) ⟨hx, hb, hml, hown, hts⟩ (c_X3_isObject l D Y ad (mSetThr t 0) o ) (cwV 1 hts gX3_put_X3_isObject rfl rfl rfl hdX3_isObject ⟨Nat.le_of_ble_eq_true rfl, Nat.le_of_ble_eq_true rfl⟩) hP hK 0 4 rfl rfl rfl hl.1 rfl (Nat.le_of_ble_eq_true rfl) dX3_put_7 ⟨(Nat.zero_le _), (Nat.zero_le _)⟩ (fun r1 hr1 => ?_)
  replace hr1 : r1 = bI (qObj t o) := hr1
  cases b2 : qObj t o
  · replace hr1 : r1 = 0 := by rw [hr1, b2]; rfl
    subst hr1
    refine lv_if_eq (tgt := 31) hx hb dX3_put_10 (by decide) (fun _ => ?_) (fun c3 => absurd (by decide) c3)
    refine lv_iconst (v := (-1)) hx hb dX3_put_31 (by decide) ?_
    refine W.widen (k := 0) (n := 0) (by omega) (by omega) ?_
    exact weI (wf := fun u : MS => mW Y ad u) (mSetThr t 0) hx hb hr hlocks hP hD hS dX3_put_32 (⟨by first | (simp only [fPut, b2, decide_true, decide_false, Bool.not_true, Bool.not_false, Bool.and_true, Bool.true_and, Bool.and_false, Bool.false_and, Bool.or_true, Bool.true_or, Bool.or_false, Bool.false_or, Bool.and_self, Bool.or_self, if_true, if_false, ite_true, ite_false, Bool.false_eq_true, reduceIte, not_true_eq_false, not_false_eq_true, and_true, true_and, and_false, false_and, or_true, true_or, or_false, false_or, and_self, or_self, eq_self, decide_eq_true_eq, Bool.true_eq_false, reduceCtorEq, ne_eq]; done) | (simp [fPut, b2]; done), by first | (simp only [fPut, b2, decide_true, decide_false, Bool.not_true, Bool.not_false, Bool.and_true, Bool.true_and, Bool.and_false, Bool.false_and, Bool.or_true, Bool.true_or, Bool.or_false, Bool.false_or, Bool.and_self, Bool.or_self, if_true, if_false, ite_true, ite_false, Bool.false_eq_true, reduceIte, not_true_eq_false, not_false_eq_true, and_true, true_and, and_false, false_and, or_true, true_or, or_false, false_or, and_self, or_self, eq_self, decide_eq_true_eq, Bool.true_eq_false, reduceCtorEq, ne_eq]; done) | (simp [fPut, b2]; done)⟩)
  · replace hr1 : r1 = 1 := by rw [hr1, b2]; rfl
    subst hr1
    refine lv_if_eq (tgt := 31) hx hb dX3_put_10 (by decide) (fun c4 => absurd c4 (by decide)) (fun _ => ?_)
    refine lv_aload_n hx hb dX3_put_13 rfl (lv_at hl 0 rfl) ?_
    refine va_get (D := D) (ci := 4) (v := .ref (mH ad 0)) (C := RX3) (T := TX3) (N := 19) hx hb hts iwX3 hown hK hP 0 rfl rfl 4 (by decide) (hts (.fieldLink RX3 16 "ObjectRowsModel" "kinds" "[I") (by decide +kernel)) (fun _ h9 => h9) rfl dX3_put_14 ?_
    refine lv_iload_n hx hb dX3_put_17 rfl (lv_at hl 1 rfl) ?_
    refine va_iald hx hb hK hP 1 0 rfl rfl (hv o b2).1 dX3_put_18 ?_
    refine lv_topi (fun y5 ey5 => ?_)
    obtain rfl : y5 = mK t o := ey5
    refine lv_iconst (v := 5) hx hb dX3_put_19 (by decide) ?_
    refine lv_icmp_ne (tgt := 33) hx hb dX3_put_20 (by decide) (fun c6 => ?_) (fun c6 => ?_)
    · skip
      refine lv_aload_n hx hb dX3_put_33 rfl (lv_at hl 0 rfl) ?_
      refine va_get (D := D) (ci := 4) (v := .ref (mH ad 0)) (C := RX3) (T := TX3) (N := 19) hx hb hts iwX3 hown hK hP 0 rfl rfl 4 (by decide) (hts (.fieldLink RX3 16 "ObjectRowsModel" "kinds" "[I") (by decide +kernel)) (fun _ h9 => h9) rfl dX3_put_34 ?_
      refine lv_iload_n hx hb dX3_put_37 rfl (lv_at hl 1 rfl) ?_
      refine va_iald hx hb hK hP 1 0 rfl rfl (hv o b2).1 dX3_put_38 ?_
      refine lv_topi (fun y7 ey7 => ?_)
      obtain rfl : y7 = mK t o := ey7
      refine lv_iconst (v := 4) hx hb dX3_put_39 (by decide) ?_
      refine lv_icmp_eq (tgt := 53) hx hb dX3_put_40 (by decide) (fun c8 => ?_) (fun c8 => ?_)
      · skip
        refine lv_iconst (v := 1) hx hb dX3_put_53 (by decide) ?_
        refine lv_goto (tgt := 58) hx hb dX3_put_54 (by decide) ?_
        refine lv_istore (lv' := [(4, .int 1), (0, .ref (mO ad)), (1, .int o), (2, .int i), (3, .int v)]) hx hb dX3_put_58 hl (by decide) rfl (fun ls hl => ?_)
        refine lv_iload hx hb dX3_put_60 (lv_at hl 0 rfl) ?_
        refine lv_if_eq (tgt := 105) hx hb dX3_put_62 (by decide) (fun c9 => absurd c9 (by decide)) (fun _ => ?_)
        refine lv_iload_n hx hb dX3_put_65 rfl (lv_at hl 3 rfl) ?_
        refine lv_iconst (v := 0) hx hb dX3_put_66 (by decide) ?_
        refine lv_aload_n hx hb dX3_put_67 rfl (lv_at hl 1 rfl) ?_
        refine va_get (D := D) (ci := 4) (v := .ref (mH ad 3)) (C := RX3) (T := TX3) (N := 19) hx hb hts iwX3 hown hK hP 0 rfl rfl 7 (by decide) (hts (.fieldLink RX3 26 "ObjectRowsModel" "lengths" "[I") (by decide +kernel)) (fun _ h9 => h9) rfl dX3_put_68 ?_
        refine lv_iload_n hx hb dX3_put_71 rfl (lv_at hl 2 rfl) ?_
        refine va_iald hx hb hK hP 4 0 rfl rfl (hv o b2).1 dX3_put_72 ?_
        refine lv_topi (fun y10 ey10 => ?_)
        obtain rfl : y10 = mL t o := ey10
        refine lv_iconst (v := 1) hx hb dX3_put_73 (by decide) ?_
        refine lv_isub hx hb dX3_put_74 ?_
        refine scI (As := [.int i, .int 0, .int ((mL t o) - 1)]) (rest := []) ⟨hx, hb, hml, hown, hts⟩ (c_X3_within l i 0 ((mL t o) - 1)) (va_cwS 3 hts gX3_put_X3_within rfl rfl rfl hdX3_within ⟨Nat.le_of_ble_eq_true rfl, Nat.le_of_ble_eq_true rfl⟩) rfl hl.1 rfl (Nat.le_of_ble_eq_true rfl) dX3_put_75 ⟨(Nat.zero_le _), (Nat.zero_le _)⟩ (fun r11 hr11 => ?_)
        replace hr11 : r11 = bI (qWithin i 0 ((mL t o) - 1)) := hr11
        cases b12 : qWithin i 0 ((mL t o) - 1)
        · replace hr11 : r11 = 0 := by rw [hr11, b12]; rfl
          subst hr11
          refine lv_if_eq (tgt := 102) hx hb dX3_put_78 (by decide) (fun _ => ?_) (fun c13 => absurd (by decide) c13)
          refine lv_bipush (v := (-2)) hx hb dX3_put_102 (by decide) ?_
          refine W.widen (k := 0) (n := 0) (by omega) (by omega) ?_
          exact weI (wf := fun u : MS => mW Y ad u) (mSetThr t 0) hx hb hr hlocks hP hD hS dX3_put_104 (⟨by first | (simp only [fPut, b2, c6, c8, b12, decide_true, decide_false, Bool.not_true, Bool.not_false, Bool.and_true, Bool.true_and, Bool.and_false, Bool.false_and, Bool.or_true, Bool.true_or, Bool.or_false, Bool.false_or, Bool.and_self, Bool.or_self, if_true, if_false, ite_true, ite_false, Bool.false_eq_true, reduceIte, not_true_eq_false, not_false_eq_true, and_true, true_and, and_false, false_and, or_true, true_or, or_false, false_or, and_self, or_self, eq_self, decide_eq_true_eq, Bool.true_eq_false, reduceCtorEq, ne_eq]; done) | (simp [fPut, b2, c6, c8, b12]; done) | (simp only [fPut, b2, c6, eq_true c8, b12, decide_true, decide_false, Bool.not_true, Bool.not_false, Bool.and_true, Bool.true_and, Bool.and_false, Bool.false_and, Bool.or_true, Bool.true_or, Bool.or_false, Bool.false_or, Bool.and_self, Bool.or_self, if_true, if_false, ite_true, ite_false, Bool.false_eq_true, reduceIte, not_true_eq_false, not_false_eq_true, and_true, true_and, and_false, false_and, or_true, true_or, or_false, false_or, and_self, or_self, eq_self, decide_eq_true_eq, Bool.true_eq_false, reduceCtorEq, ne_eq]; done) | (simp [fPut, b2, c6, eq_true c8, b12]; done), by first | (simp only [fPut, b2, c6, c8, b12, decide_true, decide_false, Bool.not_true, Bool.not_false, Bool.and_true, Bool.true_and, Bool.and_false, Bool.false_and, Bool.or_true, Bool.true_or, Bool.or_false, Bool.false_or, Bool.and_self, Bool.or_self, if_true, if_false, ite_true, ite_false, Bool.false_eq_true, reduceIte, not_true_eq_false, not_false_eq_true, and_true, true_and, and_false, false_and, or_true, true_or, or_false, false_or, and_self, or_self, eq_self, decide_eq_true_eq, Bool.true_eq_false, reduceCtorEq, ne_eq]; done) | (simp [fPut, b2, c6, c8, b12]; done) | (simp only [fPut, b2, c6, eq_true c8, b12, decide_true, decide_false, Bool.not_true, Bool.not_false, Bool.and_true, Bool.true_and, Bool.and_false, Bool.false_and, Bool.or_true, Bool.true_or, Bool.or_false, Bool.false_or, Bool.and_self, Bool.or_self, if_true, if_false, ite_true, ite_false, Bool.false_eq_true, reduceIte, not_true_eq_false, not_false_eq_true, and_true, true_and, and_false, false_and, or_true, true_or, or_false, false_or, and_self, or_self, eq_self, decide_eq_true_eq, Bool.true_eq_false, reduceCtorEq, ne_eq]; done) | (simp [fPut, b2, c6, eq_true c8, b12]; done)⟩)
        · replace hr11 : r11 = 1 := by rw [hr11, b12]; rfl
          subst hr11
          refine lv_if_eq (tgt := 102) hx hb dX3_put_78 (by decide) (fun c14 => absurd c14 (by decide)) (fun _ => ?_)
          refine lv_aload_n hx hb dX3_put_81 rfl (lv_at hl 1 rfl) ?_
          refine va_get (D := D) (ci := 4) (v := .ref (mH ad 0)) (C := RX3) (T := TX3) (N := 19) hx hb hts iwX3 hown hK hP 0 rfl rfl 4 (by decide) (hts (.fieldLink RX3 16 "ObjectRowsModel" "kinds" "[I") (by decide +kernel)) (fun _ h9 => h9) rfl dX3_put_82 ?_
          refine lv_iload_n hx hb dX3_put_85 rfl (lv_at hl 2 rfl) ?_
          refine va_iald hx hb hK hP 1 0 rfl rfl (hv o b2).1 dX3_put_86 ?_
          refine lv_topi (fun y15 ey15 => ?_)
          obtain rfl : y15 = mK t o := ey15
          refine lv_iconst (v := 4) hx hb dX3_put_87 (by decide) ?_
          refine lv_icmp_ne (tgt := 105) hx hb dX3_put_88 (by decide) (fun c16 => absurd c8 c16) (fun _ => ?_)
          refine lv_iload_n hx hb dX3_put_91 rfl (lv_at hl 4 rfl) ?_
          refine lv_iconst (v := 0) hx hb dX3_put_92 (by decide) ?_
          refine lv_sipush (v := 255) hx hb dX3_put_93 (by decide) ?_
          refine scI (As := [.int v, .int 0, .int 255]) (rest := []) ⟨hx, hb, hml, hown, hts⟩ (c_X3_within l v 0 255) (va_cwS 3 hts gX3_put_X3_within rfl rfl rfl hdX3_within ⟨Nat.le_of_ble_eq_true rfl, Nat.le_of_ble_eq_true rfl⟩) rfl hl.1 rfl (Nat.le_of_ble_eq_true rfl) dX3_put_96 ⟨(Nat.zero_le _), (Nat.zero_le _)⟩ (fun r17 hr17 => ?_)
          replace hr17 : r17 = bI (qWithin v 0 255) := hr17
          cases b18 : qWithin v 0 255
          · replace hr17 : r17 = 0 := by rw [hr17, b18]; rfl
            subst hr17
            refine lv_if_ne (tgt := 105) hx hb dX3_put_99 (by decide) (fun c19 => absurd (by decide) c19) (fun _ => ?_)
            refine lv_bipush (v := (-2)) hx hb dX3_put_102 (by decide) ?_
            refine W.widen (k := 0) (n := 0) (by omega) (by omega) ?_
            exact weI (wf := fun u : MS => mW Y ad u) (mSetThr t 0) hx hb hr hlocks hP hD hS dX3_put_104 (⟨by first | (simp only [fPut, b2, c6, c8, b12, b18, decide_true, decide_false, Bool.not_true, Bool.not_false, Bool.and_true, Bool.true_and, Bool.and_false, Bool.false_and, Bool.or_true, Bool.true_or, Bool.or_false, Bool.false_or, Bool.and_self, Bool.or_self, if_true, if_false, ite_true, ite_false, Bool.false_eq_true, reduceIte, not_true_eq_false, not_false_eq_true, and_true, true_and, and_false, false_and, or_true, true_or, or_false, false_or, and_self, or_self, eq_self, decide_eq_true_eq, Bool.true_eq_false, reduceCtorEq, ne_eq]; done) | (simp [fPut, b2, c6, c8, b12, b18]; done) | (simp only [fPut, b2, c6, eq_true c8, b12, b18, decide_true, decide_false, Bool.not_true, Bool.not_false, Bool.and_true, Bool.true_and, Bool.and_false, Bool.false_and, Bool.or_true, Bool.true_or, Bool.or_false, Bool.false_or, Bool.and_self, Bool.or_self, if_true, if_false, ite_true, ite_false, Bool.false_eq_true, reduceIte, not_true_eq_false, not_false_eq_true, and_true, true_and, and_false, false_and, or_true, true_or, or_false, false_or, and_self, or_self, eq_self, decide_eq_true_eq, Bool.true_eq_false, reduceCtorEq, ne_eq]; done) | (simp [fPut, b2, c6, eq_true c8, b12, b18]; done), by first | (simp only [fPut, b2, c6, c8, b12, b18, decide_true, decide_false, Bool.not_true, Bool.not_false, Bool.and_true, Bool.true_and, Bool.and_false, Bool.false_and, Bool.or_true, Bool.true_or, Bool.or_false, Bool.false_or, Bool.and_self, Bool.or_self, if_true, if_false, ite_true, ite_false, Bool.false_eq_true, reduceIte, not_true_eq_false, not_false_eq_true, and_true, true_and, and_false, false_and, or_true, true_or, or_false, false_or, and_self, or_self, eq_self, decide_eq_true_eq, Bool.true_eq_false, reduceCtorEq, ne_eq]; done) | (simp [fPut, b2, c6, c8, b12, b18]; done) | (simp only [fPut, b2, c6, eq_true c8, b12, b18, decide_true, decide_false, Bool.not_true, Bool.not_false, Bool.and_true, Bool.true_and, Bool.and_false, Bool.false_and, Bool.or_true, Bool.true_or, Bool.or_false, Bool.false_or, Bool.and_self, Bool.or_self, if_true, if_false, ite_true, ite_false, Bool.false_eq_true, reduceIte, not_true_eq_false, not_false_eq_true, and_true, true_and, and_false, false_and, or_true, true_or, or_false, false_or, and_self, or_self, eq_self, decide_eq_true_eq, Bool.true_eq_false, reduceCtorEq, ne_eq]; done) | (simp [fPut, b2, c6, eq_true c8, b12, b18]; done)⟩)
          · replace hr17 : r17 = 1 := by rw [hr17, b18]; rfl
            subst hr17
            refine lv_if_ne (tgt := 105) hx hb dX3_put_99 (by decide) (fun _ => ?_) (fun c20 => absurd c20 (by decide))
            refine lv_iload hx hb dX3_put_105 (lv_at hl 0 rfl) ?_
            refine lv_if_eq (tgt := 119) hx hb dX3_put_107 (by decide) (fun c21 => absurd c21 (by decide)) (fun _ => ?_)
            refine lv_aload_n hx hb dX3_put_110 rfl (lv_at hl 1 rfl) ?_
            refine lv_iload_n hx hb dX3_put_111 rfl (lv_at hl 2 rfl) ?_
            refine rcI (As := [.int o]) (rest := []) ⟨hx, hb, hml, hown, hts⟩ (c_X3_accessOf l D Y ad (mSetThr t 0) o (hv o b2).1 (hv o b2).2.1) (cwV 1 hts gX3_put_X3_accessOf rfl rfl rfl hdX3_accessOf ⟨Nat.le_of_ble_eq_true rfl, Nat.le_of_ble_eq_true rfl⟩) hP hK 0 4 rfl rfl rfl hl.1 rfl (Nat.le_of_ble_eq_true rfl) dX3_put_112 ⟨(Nat.zero_le _), (Nat.zero_le _)⟩ (fun r22 hr22 => ?_)
            obtain rfl : r22 = qAcc t o := hr22
            refine lv_iconst (v := 3) hx hb dX3_put_115 (by decide) ?_
            refine lv_icmp_eq (tgt := 122) hx hb dX3_put_116 (by decide) (fun c23 => ?_) (fun c23 => ?_)
            · skip
              refine lv_aload_n hx hb dX3_put_122 rfl (lv_at hl 1 rfl) ?_
              refine va_get (D := D) (ci := 4) (v := .ref (mH ad 0)) (C := RX3) (T := TX3) (N := 19) hx hb hts iwX3 hown hK hP 0 rfl rfl 4 (by decide) (hts (.fieldLink RX3 16 "ObjectRowsModel" "kinds" "[I") (by decide +kernel)) (fun _ h9 => h9) rfl dX3_put_123 ?_
              refine lv_iload_n hx hb dX3_put_126 rfl (lv_at hl 2 rfl) ?_
              refine va_iald hx hb hK hP 1 0 rfl rfl (hv o b2).1 dX3_put_127 ?_
              refine lv_topi (fun y24 ey24 => ?_)
              obtain rfl : y24 = mK t o := ey24
              refine lv_iconst (v := 4) hx hb dX3_put_128 (by decide) ?_
              refine lv_icmp_ne (tgt := 160) hx hb dX3_put_129 (by decide) (fun c25 => absurd c8 c25) (fun _ => ?_)
              refine lv_aload_n hx hb dX3_put_132 rfl (lv_at hl 1 rfl) ?_
              refine va_get (D := D) (ci := 4) (v := .ref (mH ad 4)) (C := RX3) (T := TX3) (N := 19) hx hb hts iwX3 hown hK hP 0 rfl rfl 8 (by decide) (hts (.fieldLink RX3 29 "ObjectRowsModel" "bytes" "[B") (by decide +kernel)) (fun _ h9 => h9) rfl dX3_put_133 ?_
              refine lv_bipush (v := 64) hx hb dX3_put_136 (by decide) ?_
              refine lv_aload_n hx hb dX3_put_138 rfl (lv_at hl 1 rfl) ?_
              refine va_get (D := D) (ci := 4) (v := .ref (mH ad 1)) (C := RX3) (T := TX3) (N := 19) hx hb hts iwX3 hown hK hP 0 rfl rfl 5 (by decide) (hts (.fieldLink RX3 20 "ObjectRowsModel" "numbers" "[I") (by decide +kernel)) (fun _ h9 => h9) rfl dX3_put_139 ?_
              refine lv_iload_n hx hb dX3_put_142 rfl (lv_at hl 2 rfl) ?_
              refine va_iald hx hb hK hP 2 0 rfl rfl (hv o b2).1 dX3_put_143 ?_
              refine lv_topi (fun y26 ey26 => ?_)
              obtain rfl : y26 = mNu t o := ey26
              refine lv_imul hx hb dX3_put_144 ?_
              refine lv_aload_n hx hb dX3_put_145 rfl (lv_at hl 1 rfl) ?_
              refine va_get (D := D) (ci := 4) (v := .ref (mH ad 2)) (C := RX3) (T := TX3) (N := 19) hx hb hts iwX3 hown hK hP 0 rfl rfl 6 (by decide) (hts (.fieldLink RX3 23 "ObjectRowsModel" "froms" "[I") (by decide +kernel)) (fun _ h9 => h9) rfl dX3_put_146 ?_
              refine lv_iload_n hx hb dX3_put_149 rfl (lv_at hl 2 rfl) ?_
              refine va_iald hx hb hK hP 3 0 rfl rfl (hv o b2).1 dX3_put_150 ?_
              refine lv_topi (fun y27 ey27 => ?_)
              obtain rfl : y27 = mFr t o := ey27
              refine lv_iadd hx hb dX3_put_151 ?_
              refine lv_iload_n hx hb dX3_put_152 rfl (lv_at hl 3 rfl) ?_
              refine lv_iadd hx hb dX3_put_153 ?_
              refine lv_iload_n hx hb dX3_put_154 rfl (lv_at hl 4 rfl) ?_
              refine lv_i2b hx hb dX3_put_155 rfl ?_
              refine mAst4 (ad := ad) hx hb hK hP hD hS ((hv o b2).2.2.1 c8 i ((hv o b2).2.2.2.1 (qV4 c8) i b12).1 ((hv o b2).2.2.2.1 (qV4 c8) i b12).2) dX3_put_156 (fun H locs hP hD hS => ?_)
              refine lv_goto (tgt := 184) hx hb dX3_put_157 (by decide) ?_
              refine lv_iconst (v := 1) hx hb dX3_put_184 (by decide) ?_
              refine W.widen (k := 0) (n := 0) (by omega) (by omega) ?_
              exact weI (wf := fun u : MS => mW Y ad u) (mUp (mSetThr t 0) 4 (((64 * (mNu t o)) + (mFr t o)) + i) (vp_nar .byte v.toInt8.toInt32)) hx hb hr hlocks hP hD hS dX3_put_185 (⟨by first | (simp only [fPut, b2, c6, c8, b12, b18, c23, decide_true, decide_false, Bool.not_true, Bool.not_false, Bool.and_true, Bool.true_and, Bool.and_false, Bool.false_and, Bool.or_true, Bool.true_or, Bool.or_false, Bool.false_or, Bool.and_self, Bool.or_self, if_true, if_false, ite_true, ite_false, Bool.false_eq_true, reduceIte, not_true_eq_false, not_false_eq_true, and_true, true_and, and_false, false_and, or_true, true_or, or_false, false_or, and_self, or_self, eq_self, decide_eq_true_eq, Bool.true_eq_false, reduceCtorEq, ne_eq]; done) | (simp [fPut, b2, c6, c8, b12, b18, c23]; done) | (simp only [fPut, b2, c6, eq_true c8, b12, b18, eq_true c23, decide_true, decide_false, Bool.not_true, Bool.not_false, Bool.and_true, Bool.true_and, Bool.and_false, Bool.false_and, Bool.or_true, Bool.true_or, Bool.or_false, Bool.false_or, Bool.and_self, Bool.or_self, if_true, if_false, ite_true, ite_false, Bool.false_eq_true, reduceIte, not_true_eq_false, not_false_eq_true, and_true, true_and, and_false, false_and, or_true, true_or, or_false, false_or, and_self, or_self, eq_self, decide_eq_true_eq, Bool.true_eq_false, reduceCtorEq, ne_eq]; done) | (simp [fPut, b2, c6, eq_true c8, b12, b18, eq_true c23]; done), by first | (simp only [fPut, b2, c6, c8, b12, b18, c23, decide_true, decide_false, Bool.not_true, Bool.not_false, Bool.and_true, Bool.true_and, Bool.and_false, Bool.false_and, Bool.or_true, Bool.true_or, Bool.or_false, Bool.false_or, Bool.and_self, Bool.or_self, if_true, if_false, ite_true, ite_false, Bool.false_eq_true, reduceIte, not_true_eq_false, not_false_eq_true, and_true, true_and, and_false, false_and, or_true, true_or, or_false, false_or, and_self, or_self, eq_self, decide_eq_true_eq, Bool.true_eq_false, reduceCtorEq, ne_eq]; done) | (simp [fPut, b2, c6, c8, b12, b18, c23]; done) | (simp only [fPut, b2, c6, eq_true c8, b12, b18, eq_true c23, decide_true, decide_false, Bool.not_true, Bool.not_false, Bool.and_true, Bool.true_and, Bool.and_false, Bool.false_and, Bool.or_true, Bool.true_or, Bool.or_false, Bool.false_or, Bool.and_self, Bool.or_self, if_true, if_false, ite_true, ite_false, Bool.false_eq_true, reduceIte, not_true_eq_false, not_false_eq_true, and_true, true_and, and_false, false_and, or_true, true_or, or_false, false_or, and_self, or_self, eq_self, decide_eq_true_eq, Bool.true_eq_false, reduceCtorEq, ne_eq]; done) | (simp [fPut, b2, c6, eq_true c8, b12, b18, eq_true c23]; done)⟩)
            · skip
              refine lv_bipush (v := (-3)) hx hb dX3_put_119 (by decide) ?_
              refine W.widen (k := 0) (n := 0) (by omega) (by omega) ?_
              exact weI (wf := fun u : MS => mW Y ad u) (mSetThr t 0) hx hb hr hlocks hP hD hS dX3_put_121 (⟨by first | (simp only [fPut, b2, c6, c8, b12, b18, c23, decide_true, decide_false, Bool.not_true, Bool.not_false, Bool.and_true, Bool.true_and, Bool.and_false, Bool.false_and, Bool.or_true, Bool.true_or, Bool.or_false, Bool.false_or, Bool.and_self, Bool.or_self, if_true, if_false, ite_true, ite_false, Bool.false_eq_true, reduceIte, not_true_eq_false, not_false_eq_true, and_true, true_and, and_false, false_and, or_true, true_or, or_false, false_or, and_self, or_self, eq_self, decide_eq_true_eq, Bool.true_eq_false, reduceCtorEq, ne_eq]; done) | (simp [fPut, b2, c6, c8, b12, b18, c23]; done) | (simp only [fPut, b2, c6, eq_true c8, b12, b18, c23, decide_true, decide_false, Bool.not_true, Bool.not_false, Bool.and_true, Bool.true_and, Bool.and_false, Bool.false_and, Bool.or_true, Bool.true_or, Bool.or_false, Bool.false_or, Bool.and_self, Bool.or_self, if_true, if_false, ite_true, ite_false, Bool.false_eq_true, reduceIte, not_true_eq_false, not_false_eq_true, and_true, true_and, and_false, false_and, or_true, true_or, or_false, false_or, and_self, or_self, eq_self, decide_eq_true_eq, Bool.true_eq_false, reduceCtorEq, ne_eq]; done) | (simp [fPut, b2, c6, eq_true c8, b12, b18, c23]; done), by first | (simp only [fPut, b2, c6, c8, b12, b18, c23, decide_true, decide_false, Bool.not_true, Bool.not_false, Bool.and_true, Bool.true_and, Bool.and_false, Bool.false_and, Bool.or_true, Bool.true_or, Bool.or_false, Bool.false_or, Bool.and_self, Bool.or_self, if_true, if_false, ite_true, ite_false, Bool.false_eq_true, reduceIte, not_true_eq_false, not_false_eq_true, and_true, true_and, and_false, false_and, or_true, true_or, or_false, false_or, and_self, or_self, eq_self, decide_eq_true_eq, Bool.true_eq_false, reduceCtorEq, ne_eq]; done) | (simp [fPut, b2, c6, c8, b12, b18, c23]; done) | (simp only [fPut, b2, c6, eq_true c8, b12, b18, c23, decide_true, decide_false, Bool.not_true, Bool.not_false, Bool.and_true, Bool.true_and, Bool.and_false, Bool.false_and, Bool.or_true, Bool.true_or, Bool.or_false, Bool.false_or, Bool.and_self, Bool.or_self, if_true, if_false, ite_true, ite_false, Bool.false_eq_true, reduceIte, not_true_eq_false, not_false_eq_true, and_true, true_and, and_false, false_and, or_true, true_or, or_false, false_or, and_self, or_self, eq_self, decide_eq_true_eq, Bool.true_eq_false, reduceCtorEq, ne_eq]; done) | (simp [fPut, b2, c6, eq_true c8, b12, b18, c23]; done)⟩)
      · skip
        refine lv_aload_n hx hb dX3_put_43 rfl (lv_at hl 0 rfl) ?_
        refine va_get (D := D) (ci := 4) (v := .ref (mH ad 0)) (C := RX3) (T := TX3) (N := 19) hx hb hts iwX3 hown hK hP 0 rfl rfl 4 (by decide) (hts (.fieldLink RX3 16 "ObjectRowsModel" "kinds" "[I") (by decide +kernel)) (fun _ h9 => h9) rfl dX3_put_44 ?_
        refine lv_iload_n hx hb dX3_put_47 rfl (lv_at hl 1 rfl) ?_
        refine va_iald hx hb hK hP 1 0 rfl rfl (hv o b2).1 dX3_put_48 ?_
        refine lv_topi (fun y28 ey28 => ?_)
        obtain rfl : y28 = mK t o := ey28
        refine lv_iconst (v := 5) hx hb dX3_put_49 (by decide) ?_
        refine lv_icmp_ne (tgt := 57) hx hb dX3_put_50 (by decide) (fun _ => ?_) (fun c29 => absurd c29 c6)
        refine lv_iconst (v := 0) hx hb dX3_put_57 (by decide) ?_
        refine lv_istore (lv' := [(4, .int 0), (0, .ref (mO ad)), (1, .int o), (2, .int i), (3, .int v)]) hx hb dX3_put_58 hl (by decide) rfl (fun ls hl => ?_)
        refine lv_iload hx hb dX3_put_60 (lv_at hl 0 rfl) ?_
        refine lv_if_eq (tgt := 105) hx hb dX3_put_62 (by decide) (fun _ => ?_) (fun c30 => absurd (by decide) c30)
        refine lv_iload hx hb dX3_put_105 (lv_at hl 0 rfl) ?_
        refine lv_if_eq (tgt := 119) hx hb dX3_put_107 (by decide) (fun _ => ?_) (fun c31 => absurd (by decide) c31)
        refine lv_bipush (v := (-3)) hx hb dX3_put_119 (by decide) ?_
        refine W.widen (k := 0) (n := 0) (by omega) (by omega) ?_
        exact weI (wf := fun u : MS => mW Y ad u) (mSetThr t 0) hx hb hr hlocks hP hD hS dX3_put_121 (⟨by first | (simp only [fPut, b2, c6, c8, decide_true, decide_false, Bool.not_true, Bool.not_false, Bool.and_true, Bool.true_and, Bool.and_false, Bool.false_and, Bool.or_true, Bool.true_or, Bool.or_false, Bool.false_or, Bool.and_self, Bool.or_self, if_true, if_false, ite_true, ite_false, Bool.false_eq_true, reduceIte, not_true_eq_false, not_false_eq_true, and_true, true_and, and_false, false_and, or_true, true_or, or_false, false_or, and_self, or_self, eq_self, decide_eq_true_eq, Bool.true_eq_false, reduceCtorEq, ne_eq]; done) | (simp [fPut, b2, c6, c8]; done), by first | (simp only [fPut, b2, c6, c8, decide_true, decide_false, Bool.not_true, Bool.not_false, Bool.and_true, Bool.true_and, Bool.and_false, Bool.false_and, Bool.or_true, Bool.true_or, Bool.or_false, Bool.false_or, Bool.and_self, Bool.or_self, if_true, if_false, ite_true, ite_false, Bool.false_eq_true, reduceIte, not_true_eq_false, not_false_eq_true, and_true, true_and, and_false, false_and, or_true, true_or, or_false, false_or, and_self, or_self, eq_self, decide_eq_true_eq, Bool.true_eq_false, reduceCtorEq, ne_eq]; done) | (simp [fPut, b2, c6, c8]; done)⟩)
    · skip
      refine lv_aload_n hx hb dX3_put_23 rfl (lv_at hl 0 rfl) ?_
      refine lv_iload_n hx hb dX3_put_24 rfl (lv_at hl 3 rfl) ?_
      refine rcI (As := [.int v]) (rest := []) ⟨hx, hb, hml, hown, hts⟩ (c_X3_isObject l D Y ad (mSetThr t 0) v ) (cwV 1 hts gX3_put_X3_isObject rfl rfl rfl hdX3_isObject ⟨Nat.le_of_ble_eq_true rfl, Nat.le_of_ble_eq_true rfl⟩) hP hK 0 4 rfl rfl rfl hl.1 rfl (Nat.le_of_ble_eq_true rfl) dX3_put_25 ⟨(Nat.zero_le _), (Nat.zero_le _)⟩ (fun r32 hr32 => ?_)
      replace hr32 : r32 = bI (qObj t v) := hr32
      cases b33 : qObj t v
      · replace hr32 : r32 = 0 := by rw [hr32, b33]; rfl
        subst hr32
        refine lv_if_ne (tgt := 33) hx hb dX3_put_28 (by decide) (fun c34 => absurd (by decide) c34) (fun _ => ?_)
        refine lv_iconst (v := (-1)) hx hb dX3_put_31 (by decide) ?_
        refine W.widen (k := 0) (n := 0) (by omega) (by omega) ?_
        exact weI (wf := fun u : MS => mW Y ad u) (mSetThr t 0) hx hb hr hlocks hP hD hS dX3_put_32 (⟨by first | (simp only [fPut, b2, c6, b33, decide_true, decide_false, Bool.not_true, Bool.not_false, Bool.and_true, Bool.true_and, Bool.and_false, Bool.false_and, Bool.or_true, Bool.true_or, Bool.or_false, Bool.false_or, Bool.and_self, Bool.or_self, if_true, if_false, ite_true, ite_false, Bool.false_eq_true, reduceIte, not_true_eq_false, not_false_eq_true, and_true, true_and, and_false, false_and, or_true, true_or, or_false, false_or, and_self, or_self, eq_self, decide_eq_true_eq, Bool.true_eq_false, reduceCtorEq, ne_eq]; done) | (simp [fPut, b2, c6, b33]; done) | (simp only [fPut, b2, eq_true c6, b33, decide_true, decide_false, Bool.not_true, Bool.not_false, Bool.and_true, Bool.true_and, Bool.and_false, Bool.false_and, Bool.or_true, Bool.true_or, Bool.or_false, Bool.false_or, Bool.and_self, Bool.or_self, if_true, if_false, ite_true, ite_false, Bool.false_eq_true, reduceIte, not_true_eq_false, not_false_eq_true, and_true, true_and, and_false, false_and, or_true, true_or, or_false, false_or, and_self, or_self, eq_self, decide_eq_true_eq, Bool.true_eq_false, reduceCtorEq, ne_eq]; done) | (simp [fPut, b2, eq_true c6, b33]; done), by first | (simp only [fPut, b2, c6, b33, decide_true, decide_false, Bool.not_true, Bool.not_false, Bool.and_true, Bool.true_and, Bool.and_false, Bool.false_and, Bool.or_true, Bool.true_or, Bool.or_false, Bool.false_or, Bool.and_self, Bool.or_self, if_true, if_false, ite_true, ite_false, Bool.false_eq_true, reduceIte, not_true_eq_false, not_false_eq_true, and_true, true_and, and_false, false_and, or_true, true_or, or_false, false_or, and_self, or_self, eq_self, decide_eq_true_eq, Bool.true_eq_false, reduceCtorEq, ne_eq]; done) | (simp [fPut, b2, c6, b33]; done) | (simp only [fPut, b2, eq_true c6, b33, decide_true, decide_false, Bool.not_true, Bool.not_false, Bool.and_true, Bool.true_and, Bool.and_false, Bool.false_and, Bool.or_true, Bool.true_or, Bool.or_false, Bool.false_or, Bool.and_self, Bool.or_self, if_true, if_false, ite_true, ite_false, Bool.false_eq_true, reduceIte, not_true_eq_false, not_false_eq_true, and_true, true_and, and_false, false_and, or_true, true_or, or_false, false_or, and_self, or_self, eq_self, decide_eq_true_eq, Bool.true_eq_false, reduceCtorEq, ne_eq]; done) | (simp [fPut, b2, eq_true c6, b33]; done)⟩)
      · replace hr32 : r32 = 1 := by rw [hr32, b33]; rfl
        subst hr32
        refine lv_if_ne (tgt := 33) hx hb dX3_put_28 (by decide) (fun _ => ?_) (fun c35 => absurd c35 (by decide))
        refine lv_aload_n hx hb dX3_put_33 rfl (lv_at hl 0 rfl) ?_
        refine va_get (D := D) (ci := 4) (v := .ref (mH ad 0)) (C := RX3) (T := TX3) (N := 19) hx hb hts iwX3 hown hK hP 0 rfl rfl 4 (by decide) (hts (.fieldLink RX3 16 "ObjectRowsModel" "kinds" "[I") (by decide +kernel)) (fun _ h9 => h9) rfl dX3_put_34 ?_
        refine lv_iload_n hx hb dX3_put_37 rfl (lv_at hl 1 rfl) ?_
        refine va_iald hx hb hK hP 1 0 rfl rfl (hv o b2).1 dX3_put_38 ?_
        refine lv_topi (fun y36 ey36 => ?_)
        obtain rfl : y36 = mK t o := ey36
        refine lv_iconst (v := 4) hx hb dX3_put_39 (by decide) ?_
        refine lv_icmp_eq (tgt := 53) hx hb dX3_put_40 (by decide) (fun c37 => ?_) (fun c37 => ?_)
        · skip
          refine lv_iconst (v := 1) hx hb dX3_put_53 (by decide) ?_
          refine lv_goto (tgt := 58) hx hb dX3_put_54 (by decide) ?_
          refine lv_istore (lv' := [(4, .int 1), (0, .ref (mO ad)), (1, .int o), (2, .int i), (3, .int v)]) hx hb dX3_put_58 hl (by decide) rfl (fun ls hl => ?_)
          refine lv_iload hx hb dX3_put_60 (lv_at hl 0 rfl) ?_
          refine lv_if_eq (tgt := 105) hx hb dX3_put_62 (by decide) (fun c38 => absurd c38 (by decide)) (fun _ => ?_)
          refine lv_iload_n hx hb dX3_put_65 rfl (lv_at hl 3 rfl) ?_
          refine lv_iconst (v := 0) hx hb dX3_put_66 (by decide) ?_
          refine lv_aload_n hx hb dX3_put_67 rfl (lv_at hl 1 rfl) ?_
          refine va_get (D := D) (ci := 4) (v := .ref (mH ad 3)) (C := RX3) (T := TX3) (N := 19) hx hb hts iwX3 hown hK hP 0 rfl rfl 7 (by decide) (hts (.fieldLink RX3 26 "ObjectRowsModel" "lengths" "[I") (by decide +kernel)) (fun _ h9 => h9) rfl dX3_put_68 ?_
          refine lv_iload_n hx hb dX3_put_71 rfl (lv_at hl 2 rfl) ?_
          refine va_iald hx hb hK hP 4 0 rfl rfl (hv o b2).1 dX3_put_72 ?_
          refine lv_topi (fun y39 ey39 => ?_)
          obtain rfl : y39 = mL t o := ey39
          refine lv_iconst (v := 1) hx hb dX3_put_73 (by decide) ?_
          refine lv_isub hx hb dX3_put_74 ?_
          refine scI (As := [.int i, .int 0, .int ((mL t o) - 1)]) (rest := []) ⟨hx, hb, hml, hown, hts⟩ (c_X3_within l i 0 ((mL t o) - 1)) (va_cwS 3 hts gX3_put_X3_within rfl rfl rfl hdX3_within ⟨Nat.le_of_ble_eq_true rfl, Nat.le_of_ble_eq_true rfl⟩) rfl hl.1 rfl (Nat.le_of_ble_eq_true rfl) dX3_put_75 ⟨(Nat.zero_le _), (Nat.zero_le _)⟩ (fun r40 hr40 => ?_)
          replace hr40 : r40 = bI (qWithin i 0 ((mL t o) - 1)) := hr40
          cases b41 : qWithin i 0 ((mL t o) - 1)
          · replace hr40 : r40 = 0 := by rw [hr40, b41]; rfl
            subst hr40
            refine lv_if_eq (tgt := 102) hx hb dX3_put_78 (by decide) (fun _ => ?_) (fun c42 => absurd (by decide) c42)
            refine lv_bipush (v := (-2)) hx hb dX3_put_102 (by decide) ?_
            refine W.widen (k := 0) (n := 0) (by omega) (by omega) ?_
            exact weI (wf := fun u : MS => mW Y ad u) (mSetThr t 0) hx hb hr hlocks hP hD hS dX3_put_104 (⟨by first | (simp only [fPut, b2, c6, b33, c37, b41, decide_true, decide_false, Bool.not_true, Bool.not_false, Bool.and_true, Bool.true_and, Bool.and_false, Bool.false_and, Bool.or_true, Bool.true_or, Bool.or_false, Bool.false_or, Bool.and_self, Bool.or_self, if_true, if_false, ite_true, ite_false, Bool.false_eq_true, reduceIte, not_true_eq_false, not_false_eq_true, and_true, true_and, and_false, false_and, or_true, true_or, or_false, false_or, and_self, or_self, eq_self, decide_eq_true_eq, Bool.true_eq_false, reduceCtorEq, ne_eq]; done) | (simp [fPut, b2, c6, b33, c37, b41]; done) | (simp only [fPut, b2, eq_true c6, b33, eq_true c37, b41, decide_true, decide_false, Bool.not_true, Bool.not_false, Bool.and_true, Bool.true_and, Bool.and_false, Bool.false_and, Bool.or_true, Bool.true_or, Bool.or_false, Bool.false_or, Bool.and_self, Bool.or_self, if_true, if_false, ite_true, ite_false, Bool.false_eq_true, reduceIte, not_true_eq_false, not_false_eq_true, and_true, true_and, and_false, false_and, or_true, true_or, or_false, false_or, and_self, or_self, eq_self, decide_eq_true_eq, Bool.true_eq_false, reduceCtorEq, ne_eq]; done) | (simp [fPut, b2, eq_true c6, b33, eq_true c37, b41]; done), by first | (simp only [fPut, b2, c6, b33, c37, b41, decide_true, decide_false, Bool.not_true, Bool.not_false, Bool.and_true, Bool.true_and, Bool.and_false, Bool.false_and, Bool.or_true, Bool.true_or, Bool.or_false, Bool.false_or, Bool.and_self, Bool.or_self, if_true, if_false, ite_true, ite_false, Bool.false_eq_true, reduceIte, not_true_eq_false, not_false_eq_true, and_true, true_and, and_false, false_and, or_true, true_or, or_false, false_or, and_self, or_self, eq_self, decide_eq_true_eq, Bool.true_eq_false, reduceCtorEq, ne_eq]; done) | (simp [fPut, b2, c6, b33, c37, b41]; done) | (simp only [fPut, b2, eq_true c6, b33, eq_true c37, b41, decide_true, decide_false, Bool.not_true, Bool.not_false, Bool.and_true, Bool.true_and, Bool.and_false, Bool.false_and, Bool.or_true, Bool.true_or, Bool.or_false, Bool.false_or, Bool.and_self, Bool.or_self, if_true, if_false, ite_true, ite_false, Bool.false_eq_true, reduceIte, not_true_eq_false, not_false_eq_true, and_true, true_and, and_false, false_and, or_true, true_or, or_false, false_or, and_self, or_self, eq_self, decide_eq_true_eq, Bool.true_eq_false, reduceCtorEq, ne_eq]; done) | (simp [fPut, b2, eq_true c6, b33, eq_true c37, b41]; done)⟩)
          · replace hr40 : r40 = 1 := by rw [hr40, b41]; rfl
            subst hr40
            refine lv_if_eq (tgt := 102) hx hb dX3_put_78 (by decide) (fun c43 => absurd c43 (by decide)) (fun _ => ?_)
            refine lv_aload_n hx hb dX3_put_81 rfl (lv_at hl 1 rfl) ?_
            refine va_get (D := D) (ci := 4) (v := .ref (mH ad 0)) (C := RX3) (T := TX3) (N := 19) hx hb hts iwX3 hown hK hP 0 rfl rfl 4 (by decide) (hts (.fieldLink RX3 16 "ObjectRowsModel" "kinds" "[I") (by decide +kernel)) (fun _ h9 => h9) rfl dX3_put_82 ?_
            refine lv_iload_n hx hb dX3_put_85 rfl (lv_at hl 2 rfl) ?_
            refine va_iald hx hb hK hP 1 0 rfl rfl (hv o b2).1 dX3_put_86 ?_
            refine lv_topi (fun y44 ey44 => ?_)
            obtain rfl : y44 = mK t o := ey44
            refine lv_iconst (v := 4) hx hb dX3_put_87 (by decide) ?_
            refine lv_icmp_ne (tgt := 105) hx hb dX3_put_88 (by decide) (fun c45 => absurd c37 c45) (fun _ => ?_)
            refine lv_iload_n hx hb dX3_put_91 rfl (lv_at hl 4 rfl) ?_
            refine lv_iconst (v := 0) hx hb dX3_put_92 (by decide) ?_
            refine lv_sipush (v := 255) hx hb dX3_put_93 (by decide) ?_
            refine scI (As := [.int v, .int 0, .int 255]) (rest := []) ⟨hx, hb, hml, hown, hts⟩ (c_X3_within l v 0 255) (va_cwS 3 hts gX3_put_X3_within rfl rfl rfl hdX3_within ⟨Nat.le_of_ble_eq_true rfl, Nat.le_of_ble_eq_true rfl⟩) rfl hl.1 rfl (Nat.le_of_ble_eq_true rfl) dX3_put_96 ⟨(Nat.zero_le _), (Nat.zero_le _)⟩ (fun r46 hr46 => ?_)
            replace hr46 : r46 = bI (qWithin v 0 255) := hr46
            cases b47 : qWithin v 0 255
            · replace hr46 : r46 = 0 := by rw [hr46, b47]; rfl
              subst hr46
              refine lv_if_ne (tgt := 105) hx hb dX3_put_99 (by decide) (fun c48 => absurd (by decide) c48) (fun _ => ?_)
              refine lv_bipush (v := (-2)) hx hb dX3_put_102 (by decide) ?_
              refine W.widen (k := 0) (n := 0) (by omega) (by omega) ?_
              exact weI (wf := fun u : MS => mW Y ad u) (mSetThr t 0) hx hb hr hlocks hP hD hS dX3_put_104 (⟨by first | (simp only [fPut, b2, c6, b33, c37, b41, b47, decide_true, decide_false, Bool.not_true, Bool.not_false, Bool.and_true, Bool.true_and, Bool.and_false, Bool.false_and, Bool.or_true, Bool.true_or, Bool.or_false, Bool.false_or, Bool.and_self, Bool.or_self, if_true, if_false, ite_true, ite_false, Bool.false_eq_true, reduceIte, not_true_eq_false, not_false_eq_true, and_true, true_and, and_false, false_and, or_true, true_or, or_false, false_or, and_self, or_self, eq_self, decide_eq_true_eq, Bool.true_eq_false, reduceCtorEq, ne_eq]; done) | (simp [fPut, b2, c6, b33, c37, b41, b47]; done) | (simp only [fPut, b2, eq_true c6, b33, eq_true c37, b41, b47, decide_true, decide_false, Bool.not_true, Bool.not_false, Bool.and_true, Bool.true_and, Bool.and_false, Bool.false_and, Bool.or_true, Bool.true_or, Bool.or_false, Bool.false_or, Bool.and_self, Bool.or_self, if_true, if_false, ite_true, ite_false, Bool.false_eq_true, reduceIte, not_true_eq_false, not_false_eq_true, and_true, true_and, and_false, false_and, or_true, true_or, or_false, false_or, and_self, or_self, eq_self, decide_eq_true_eq, Bool.true_eq_false, reduceCtorEq, ne_eq]; done) | (simp [fPut, b2, eq_true c6, b33, eq_true c37, b41, b47]; done), by first | (simp only [fPut, b2, c6, b33, c37, b41, b47, decide_true, decide_false, Bool.not_true, Bool.not_false, Bool.and_true, Bool.true_and, Bool.and_false, Bool.false_and, Bool.or_true, Bool.true_or, Bool.or_false, Bool.false_or, Bool.and_self, Bool.or_self, if_true, if_false, ite_true, ite_false, Bool.false_eq_true, reduceIte, not_true_eq_false, not_false_eq_true, and_true, true_and, and_false, false_and, or_true, true_or, or_false, false_or, and_self, or_self, eq_self, decide_eq_true_eq, Bool.true_eq_false, reduceCtorEq, ne_eq]; done) | (simp [fPut, b2, c6, b33, c37, b41, b47]; done) | (simp only [fPut, b2, eq_true c6, b33, eq_true c37, b41, b47, decide_true, decide_false, Bool.not_true, Bool.not_false, Bool.and_true, Bool.true_and, Bool.and_false, Bool.false_and, Bool.or_true, Bool.true_or, Bool.or_false, Bool.false_or, Bool.and_self, Bool.or_self, if_true, if_false, ite_true, ite_false, Bool.false_eq_true, reduceIte, not_true_eq_false, not_false_eq_true, and_true, true_and, and_false, false_and, or_true, true_or, or_false, false_or, and_self, or_self, eq_self, decide_eq_true_eq, Bool.true_eq_false, reduceCtorEq, ne_eq]; done) | (simp [fPut, b2, eq_true c6, b33, eq_true c37, b41, b47]; done)⟩)
            · replace hr46 : r46 = 1 := by rw [hr46, b47]; rfl
              subst hr46
              refine lv_if_ne (tgt := 105) hx hb dX3_put_99 (by decide) (fun _ => ?_) (fun c49 => absurd c49 (by decide))
              refine lv_iload hx hb dX3_put_105 (lv_at hl 0 rfl) ?_
              refine lv_if_eq (tgt := 119) hx hb dX3_put_107 (by decide) (fun c50 => absurd c50 (by decide)) (fun _ => ?_)
              refine lv_aload_n hx hb dX3_put_110 rfl (lv_at hl 1 rfl) ?_
              refine lv_iload_n hx hb dX3_put_111 rfl (lv_at hl 2 rfl) ?_
              refine rcI (As := [.int o]) (rest := []) ⟨hx, hb, hml, hown, hts⟩ (c_X3_accessOf l D Y ad (mSetThr t 0) o (hv o b2).1 (hv o b2).2.1) (cwV 1 hts gX3_put_X3_accessOf rfl rfl rfl hdX3_accessOf ⟨Nat.le_of_ble_eq_true rfl, Nat.le_of_ble_eq_true rfl⟩) hP hK 0 4 rfl rfl rfl hl.1 rfl (Nat.le_of_ble_eq_true rfl) dX3_put_112 ⟨(Nat.zero_le _), (Nat.zero_le _)⟩ (fun r51 hr51 => ?_)
              obtain rfl : r51 = qAcc t o := hr51
              refine lv_iconst (v := 3) hx hb dX3_put_115 (by decide) ?_
              refine lv_icmp_eq (tgt := 122) hx hb dX3_put_116 (by decide) (fun c52 => ?_) (fun c52 => ?_)
              · skip
                refine lv_aload_n hx hb dX3_put_122 rfl (lv_at hl 1 rfl) ?_
                refine va_get (D := D) (ci := 4) (v := .ref (mH ad 0)) (C := RX3) (T := TX3) (N := 19) hx hb hts iwX3 hown hK hP 0 rfl rfl 4 (by decide) (hts (.fieldLink RX3 16 "ObjectRowsModel" "kinds" "[I") (by decide +kernel)) (fun _ h9 => h9) rfl dX3_put_123 ?_
                refine lv_iload_n hx hb dX3_put_126 rfl (lv_at hl 2 rfl) ?_
                refine va_iald hx hb hK hP 1 0 rfl rfl (hv o b2).1 dX3_put_127 ?_
                refine lv_topi (fun y53 ey53 => ?_)
                obtain rfl : y53 = mK t o := ey53
                refine lv_iconst (v := 4) hx hb dX3_put_128 (by decide) ?_
                refine lv_icmp_ne (tgt := 160) hx hb dX3_put_129 (by decide) (fun c54 => absurd c37 c54) (fun _ => ?_)
                refine lv_aload_n hx hb dX3_put_132 rfl (lv_at hl 1 rfl) ?_
                refine va_get (D := D) (ci := 4) (v := .ref (mH ad 4)) (C := RX3) (T := TX3) (N := 19) hx hb hts iwX3 hown hK hP 0 rfl rfl 8 (by decide) (hts (.fieldLink RX3 29 "ObjectRowsModel" "bytes" "[B") (by decide +kernel)) (fun _ h9 => h9) rfl dX3_put_133 ?_
                refine lv_bipush (v := 64) hx hb dX3_put_136 (by decide) ?_
                refine lv_aload_n hx hb dX3_put_138 rfl (lv_at hl 1 rfl) ?_
                refine va_get (D := D) (ci := 4) (v := .ref (mH ad 1)) (C := RX3) (T := TX3) (N := 19) hx hb hts iwX3 hown hK hP 0 rfl rfl 5 (by decide) (hts (.fieldLink RX3 20 "ObjectRowsModel" "numbers" "[I") (by decide +kernel)) (fun _ h9 => h9) rfl dX3_put_139 ?_
                refine lv_iload_n hx hb dX3_put_142 rfl (lv_at hl 2 rfl) ?_
                refine va_iald hx hb hK hP 2 0 rfl rfl (hv o b2).1 dX3_put_143 ?_
                refine lv_topi (fun y55 ey55 => ?_)
                obtain rfl : y55 = mNu t o := ey55
                refine lv_imul hx hb dX3_put_144 ?_
                refine lv_aload_n hx hb dX3_put_145 rfl (lv_at hl 1 rfl) ?_
                refine va_get (D := D) (ci := 4) (v := .ref (mH ad 2)) (C := RX3) (T := TX3) (N := 19) hx hb hts iwX3 hown hK hP 0 rfl rfl 6 (by decide) (hts (.fieldLink RX3 23 "ObjectRowsModel" "froms" "[I") (by decide +kernel)) (fun _ h9 => h9) rfl dX3_put_146 ?_
                refine lv_iload_n hx hb dX3_put_149 rfl (lv_at hl 2 rfl) ?_
                refine va_iald hx hb hK hP 3 0 rfl rfl (hv o b2).1 dX3_put_150 ?_
                refine lv_topi (fun y56 ey56 => ?_)
                obtain rfl : y56 = mFr t o := ey56
                refine lv_iadd hx hb dX3_put_151 ?_
                refine lv_iload_n hx hb dX3_put_152 rfl (lv_at hl 3 rfl) ?_
                refine lv_iadd hx hb dX3_put_153 ?_
                refine lv_iload_n hx hb dX3_put_154 rfl (lv_at hl 4 rfl) ?_
                refine lv_i2b hx hb dX3_put_155 rfl ?_
                refine mAst4 (ad := ad) hx hb hK hP hD hS ((hv o b2).2.2.1 c37 i ((hv o b2).2.2.2.1 (qV4 c37) i b41).1 ((hv o b2).2.2.2.1 (qV4 c37) i b41).2) dX3_put_156 (fun H locs hP hD hS => ?_)
                refine lv_goto (tgt := 184) hx hb dX3_put_157 (by decide) ?_
                refine lv_iconst (v := 1) hx hb dX3_put_184 (by decide) ?_
                refine W.widen (k := 0) (n := 0) (by omega) (by omega) ?_
                exact weI (wf := fun u : MS => mW Y ad u) (mUp (mSetThr t 0) 4 (((64 * (mNu t o)) + (mFr t o)) + i) (vp_nar .byte v.toInt8.toInt32)) hx hb hr hlocks hP hD hS dX3_put_185 (⟨by first | (simp only [fPut, b2, c6, b33, c37, b41, b47, c52, decide_true, decide_false, Bool.not_true, Bool.not_false, Bool.and_true, Bool.true_and, Bool.and_false, Bool.false_and, Bool.or_true, Bool.true_or, Bool.or_false, Bool.false_or, Bool.and_self, Bool.or_self, if_true, if_false, ite_true, ite_false, Bool.false_eq_true, reduceIte, not_true_eq_false, not_false_eq_true, and_true, true_and, and_false, false_and, or_true, true_or, or_false, false_or, and_self, or_self, eq_self, decide_eq_true_eq, Bool.true_eq_false, reduceCtorEq, ne_eq]; done) | (simp [fPut, b2, c6, b33, c37, b41, b47, c52]; done) | (simp only [fPut, b2, eq_true c6, b33, eq_true c37, b41, b47, eq_true c52, decide_true, decide_false, Bool.not_true, Bool.not_false, Bool.and_true, Bool.true_and, Bool.and_false, Bool.false_and, Bool.or_true, Bool.true_or, Bool.or_false, Bool.false_or, Bool.and_self, Bool.or_self, if_true, if_false, ite_true, ite_false, Bool.false_eq_true, reduceIte, not_true_eq_false, not_false_eq_true, and_true, true_and, and_false, false_and, or_true, true_or, or_false, false_or, and_self, or_self, eq_self, decide_eq_true_eq, Bool.true_eq_false, reduceCtorEq, ne_eq]; done) | (simp [fPut, b2, eq_true c6, b33, eq_true c37, b41, b47, eq_true c52]; done), by first | (simp only [fPut, b2, c6, b33, c37, b41, b47, c52, decide_true, decide_false, Bool.not_true, Bool.not_false, Bool.and_true, Bool.true_and, Bool.and_false, Bool.false_and, Bool.or_true, Bool.true_or, Bool.or_false, Bool.false_or, Bool.and_self, Bool.or_self, if_true, if_false, ite_true, ite_false, Bool.false_eq_true, reduceIte, not_true_eq_false, not_false_eq_true, and_true, true_and, and_false, false_and, or_true, true_or, or_false, false_or, and_self, or_self, eq_self, decide_eq_true_eq, Bool.true_eq_false, reduceCtorEq, ne_eq]; done) | (simp [fPut, b2, c6, b33, c37, b41, b47, c52]; done) | (simp only [fPut, b2, eq_true c6, b33, eq_true c37, b41, b47, eq_true c52, decide_true, decide_false, Bool.not_true, Bool.not_false, Bool.and_true, Bool.true_and, Bool.and_false, Bool.false_and, Bool.or_true, Bool.true_or, Bool.or_false, Bool.false_or, Bool.and_self, Bool.or_self, if_true, if_false, ite_true, ite_false, Bool.false_eq_true, reduceIte, not_true_eq_false, not_false_eq_true, and_true, true_and, and_false, false_and, or_true, true_or, or_false, false_or, and_self, or_self, eq_self, decide_eq_true_eq, Bool.true_eq_false, reduceCtorEq, ne_eq]; done) | (simp [fPut, b2, eq_true c6, b33, eq_true c37, b41, b47, eq_true c52]; done)⟩)
              · skip
                refine lv_bipush (v := (-3)) hx hb dX3_put_119 (by decide) ?_
                refine W.widen (k := 0) (n := 0) (by omega) (by omega) ?_
                exact weI (wf := fun u : MS => mW Y ad u) (mSetThr t 0) hx hb hr hlocks hP hD hS dX3_put_121 (⟨by first | (simp only [fPut, b2, c6, b33, c37, b41, b47, c52, decide_true, decide_false, Bool.not_true, Bool.not_false, Bool.and_true, Bool.true_and, Bool.and_false, Bool.false_and, Bool.or_true, Bool.true_or, Bool.or_false, Bool.false_or, Bool.and_self, Bool.or_self, if_true, if_false, ite_true, ite_false, Bool.false_eq_true, reduceIte, not_true_eq_false, not_false_eq_true, and_true, true_and, and_false, false_and, or_true, true_or, or_false, false_or, and_self, or_self, eq_self, decide_eq_true_eq, Bool.true_eq_false, reduceCtorEq, ne_eq]; done) | (simp [fPut, b2, c6, b33, c37, b41, b47, c52]; done) | (simp only [fPut, b2, eq_true c6, b33, eq_true c37, b41, b47, c52, decide_true, decide_false, Bool.not_true, Bool.not_false, Bool.and_true, Bool.true_and, Bool.and_false, Bool.false_and, Bool.or_true, Bool.true_or, Bool.or_false, Bool.false_or, Bool.and_self, Bool.or_self, if_true, if_false, ite_true, ite_false, Bool.false_eq_true, reduceIte, not_true_eq_false, not_false_eq_true, and_true, true_and, and_false, false_and, or_true, true_or, or_false, false_or, and_self, or_self, eq_self, decide_eq_true_eq, Bool.true_eq_false, reduceCtorEq, ne_eq]; done) | (simp [fPut, b2, eq_true c6, b33, eq_true c37, b41, b47, c52]; done), by first | (simp only [fPut, b2, c6, b33, c37, b41, b47, c52, decide_true, decide_false, Bool.not_true, Bool.not_false, Bool.and_true, Bool.true_and, Bool.and_false, Bool.false_and, Bool.or_true, Bool.true_or, Bool.or_false, Bool.false_or, Bool.and_self, Bool.or_self, if_true, if_false, ite_true, ite_false, Bool.false_eq_true, reduceIte, not_true_eq_false, not_false_eq_true, and_true, true_and, and_false, false_and, or_true, true_or, or_false, false_or, and_self, or_self, eq_self, decide_eq_true_eq, Bool.true_eq_false, reduceCtorEq, ne_eq]; done) | (simp [fPut, b2, c6, b33, c37, b41, b47, c52]; done) | (simp only [fPut, b2, eq_true c6, b33, eq_true c37, b41, b47, c52, decide_true, decide_false, Bool.not_true, Bool.not_false, Bool.and_true, Bool.true_and, Bool.and_false, Bool.false_and, Bool.or_true, Bool.true_or, Bool.or_false, Bool.false_or, Bool.and_self, Bool.or_self, if_true, if_false, ite_true, ite_false, Bool.false_eq_true, reduceIte, not_true_eq_false, not_false_eq_true, and_true, true_and, and_false, false_and, or_true, true_or, or_false, false_or, and_self, or_self, eq_self, decide_eq_true_eq, Bool.true_eq_false, reduceCtorEq, ne_eq]; done) | (simp [fPut, b2, eq_true c6, b33, eq_true c37, b41, b47, c52]; done)⟩)
        · skip
          refine lv_aload_n hx hb dX3_put_43 rfl (lv_at hl 0 rfl) ?_
          refine va_get (D := D) (ci := 4) (v := .ref (mH ad 0)) (C := RX3) (T := TX3) (N := 19) hx hb hts iwX3 hown hK hP 0 rfl rfl 4 (by decide) (hts (.fieldLink RX3 16 "ObjectRowsModel" "kinds" "[I") (by decide +kernel)) (fun _ h9 => h9) rfl dX3_put_44 ?_
          refine lv_iload_n hx hb dX3_put_47 rfl (lv_at hl 1 rfl) ?_
          refine va_iald hx hb hK hP 1 0 rfl rfl (hv o b2).1 dX3_put_48 ?_
          refine lv_topi (fun y57 ey57 => ?_)
          obtain rfl : y57 = mK t o := ey57
          refine lv_iconst (v := 5) hx hb dX3_put_49 (by decide) ?_
          refine lv_icmp_ne (tgt := 57) hx hb dX3_put_50 (by decide) (fun c58 => absurd c6 c58) (fun _ => ?_)
          refine lv_iconst (v := 1) hx hb dX3_put_53 (by decide) ?_
          refine lv_goto (tgt := 58) hx hb dX3_put_54 (by decide) ?_
          refine lv_istore (lv' := [(4, .int 1), (0, .ref (mO ad)), (1, .int o), (2, .int i), (3, .int v)]) hx hb dX3_put_58 hl (by decide) rfl (fun ls hl => ?_)
          refine lv_iload hx hb dX3_put_60 (lv_at hl 0 rfl) ?_
          refine lv_if_eq (tgt := 105) hx hb dX3_put_62 (by decide) (fun c59 => absurd c59 (by decide)) (fun _ => ?_)
          refine lv_iload_n hx hb dX3_put_65 rfl (lv_at hl 3 rfl) ?_
          refine lv_iconst (v := 0) hx hb dX3_put_66 (by decide) ?_
          refine lv_aload_n hx hb dX3_put_67 rfl (lv_at hl 1 rfl) ?_
          refine va_get (D := D) (ci := 4) (v := .ref (mH ad 3)) (C := RX3) (T := TX3) (N := 19) hx hb hts iwX3 hown hK hP 0 rfl rfl 7 (by decide) (hts (.fieldLink RX3 26 "ObjectRowsModel" "lengths" "[I") (by decide +kernel)) (fun _ h9 => h9) rfl dX3_put_68 ?_
          refine lv_iload_n hx hb dX3_put_71 rfl (lv_at hl 2 rfl) ?_
          refine va_iald hx hb hK hP 4 0 rfl rfl (hv o b2).1 dX3_put_72 ?_
          refine lv_topi (fun y60 ey60 => ?_)
          obtain rfl : y60 = mL t o := ey60
          refine lv_iconst (v := 1) hx hb dX3_put_73 (by decide) ?_
          refine lv_isub hx hb dX3_put_74 ?_
          refine scI (As := [.int i, .int 0, .int ((mL t o) - 1)]) (rest := []) ⟨hx, hb, hml, hown, hts⟩ (c_X3_within l i 0 ((mL t o) - 1)) (va_cwS 3 hts gX3_put_X3_within rfl rfl rfl hdX3_within ⟨Nat.le_of_ble_eq_true rfl, Nat.le_of_ble_eq_true rfl⟩) rfl hl.1 rfl (Nat.le_of_ble_eq_true rfl) dX3_put_75 ⟨(Nat.zero_le _), (Nat.zero_le _)⟩ (fun r61 hr61 => ?_)
          replace hr61 : r61 = bI (qWithin i 0 ((mL t o) - 1)) := hr61
          cases b62 : qWithin i 0 ((mL t o) - 1)
          · replace hr61 : r61 = 0 := by rw [hr61, b62]; rfl
            subst hr61
            refine lv_if_eq (tgt := 102) hx hb dX3_put_78 (by decide) (fun _ => ?_) (fun c63 => absurd (by decide) c63)
            refine lv_bipush (v := (-2)) hx hb dX3_put_102 (by decide) ?_
            refine W.widen (k := 0) (n := 0) (by omega) (by omega) ?_
            exact weI (wf := fun u : MS => mW Y ad u) (mSetThr t 0) hx hb hr hlocks hP hD hS dX3_put_104 (⟨by first | (simp only [fPut, b2, c6, b33, c37, b62, decide_true, decide_false, Bool.not_true, Bool.not_false, Bool.and_true, Bool.true_and, Bool.and_false, Bool.false_and, Bool.or_true, Bool.true_or, Bool.or_false, Bool.false_or, Bool.and_self, Bool.or_self, if_true, if_false, ite_true, ite_false, Bool.false_eq_true, reduceIte, not_true_eq_false, not_false_eq_true, and_true, true_and, and_false, false_and, or_true, true_or, or_false, false_or, and_self, or_self, eq_self, decide_eq_true_eq, Bool.true_eq_false, reduceCtorEq, ne_eq]; done) | (simp [fPut, b2, c6, b33, c37, b62]; done) | (simp only [fPut, b2, eq_true c6, b33, c37, b62, decide_true, decide_false, Bool.not_true, Bool.not_false, Bool.and_true, Bool.true_and, Bool.and_false, Bool.false_and, Bool.or_true, Bool.true_or, Bool.or_false, Bool.false_or, Bool.and_self, Bool.or_self, if_true, if_false, ite_true, ite_false, Bool.false_eq_true, reduceIte, not_true_eq_false, not_false_eq_true, and_true, true_and, and_false, false_and, or_true, true_or, or_false, false_or, and_self, or_self, eq_self, decide_eq_true_eq, Bool.true_eq_false, reduceCtorEq, ne_eq]; done) | (simp [fPut, b2, eq_true c6, b33, c37, b62]; done), by first | (simp only [fPut, b2, c6, b33, c37, b62, decide_true, decide_false, Bool.not_true, Bool.not_false, Bool.and_true, Bool.true_and, Bool.and_false, Bool.false_and, Bool.or_true, Bool.true_or, Bool.or_false, Bool.false_or, Bool.and_self, Bool.or_self, if_true, if_false, ite_true, ite_false, Bool.false_eq_true, reduceIte, not_true_eq_false, not_false_eq_true, and_true, true_and, and_false, false_and, or_true, true_or, or_false, false_or, and_self, or_self, eq_self, decide_eq_true_eq, Bool.true_eq_false, reduceCtorEq, ne_eq]; done) | (simp [fPut, b2, c6, b33, c37, b62]; done) | (simp only [fPut, b2, eq_true c6, b33, c37, b62, decide_true, decide_false, Bool.not_true, Bool.not_false, Bool.and_true, Bool.true_and, Bool.and_false, Bool.false_and, Bool.or_true, Bool.true_or, Bool.or_false, Bool.false_or, Bool.and_self, Bool.or_self, if_true, if_false, ite_true, ite_false, Bool.false_eq_true, reduceIte, not_true_eq_false, not_false_eq_true, and_true, true_and, and_false, false_and, or_true, true_or, or_false, false_or, and_self, or_self, eq_self, decide_eq_true_eq, Bool.true_eq_false, reduceCtorEq, ne_eq]; done) | (simp [fPut, b2, eq_true c6, b33, c37, b62]; done)⟩)
          · replace hr61 : r61 = 1 := by rw [hr61, b62]; rfl
            subst hr61
            refine lv_if_eq (tgt := 102) hx hb dX3_put_78 (by decide) (fun c64 => absurd c64 (by decide)) (fun _ => ?_)
            refine lv_aload_n hx hb dX3_put_81 rfl (lv_at hl 1 rfl) ?_
            refine va_get (D := D) (ci := 4) (v := .ref (mH ad 0)) (C := RX3) (T := TX3) (N := 19) hx hb hts iwX3 hown hK hP 0 rfl rfl 4 (by decide) (hts (.fieldLink RX3 16 "ObjectRowsModel" "kinds" "[I") (by decide +kernel)) (fun _ h9 => h9) rfl dX3_put_82 ?_
            refine lv_iload_n hx hb dX3_put_85 rfl (lv_at hl 2 rfl) ?_
            refine va_iald hx hb hK hP 1 0 rfl rfl (hv o b2).1 dX3_put_86 ?_
            refine lv_topi (fun y65 ey65 => ?_)
            obtain rfl : y65 = mK t o := ey65
            refine lv_iconst (v := 4) hx hb dX3_put_87 (by decide) ?_
            refine lv_icmp_ne (tgt := 105) hx hb dX3_put_88 (by decide) (fun _ => ?_) (fun c66 => absurd c66 c37)
            refine lv_iload hx hb dX3_put_105 (lv_at hl 0 rfl) ?_
            refine lv_if_eq (tgt := 119) hx hb dX3_put_107 (by decide) (fun c67 => absurd c67 (by decide)) (fun _ => ?_)
            refine lv_aload_n hx hb dX3_put_110 rfl (lv_at hl 1 rfl) ?_
            refine lv_iload_n hx hb dX3_put_111 rfl (lv_at hl 2 rfl) ?_
            refine rcI (As := [.int o]) (rest := []) ⟨hx, hb, hml, hown, hts⟩ (c_X3_accessOf l D Y ad (mSetThr t 0) o (hv o b2).1 (hv o b2).2.1) (cwV 1 hts gX3_put_X3_accessOf rfl rfl rfl hdX3_accessOf ⟨Nat.le_of_ble_eq_true rfl, Nat.le_of_ble_eq_true rfl⟩) hP hK 0 4 rfl rfl rfl hl.1 rfl (Nat.le_of_ble_eq_true rfl) dX3_put_112 ⟨(Nat.zero_le _), (Nat.zero_le _)⟩ (fun r68 hr68 => ?_)
            obtain rfl : r68 = qAcc t o := hr68
            refine lv_iconst (v := 3) hx hb dX3_put_115 (by decide) ?_
            refine lv_icmp_eq (tgt := 122) hx hb dX3_put_116 (by decide) (fun c69 => ?_) (fun c69 => ?_)
            · skip
              refine lv_aload_n hx hb dX3_put_122 rfl (lv_at hl 1 rfl) ?_
              refine va_get (D := D) (ci := 4) (v := .ref (mH ad 0)) (C := RX3) (T := TX3) (N := 19) hx hb hts iwX3 hown hK hP 0 rfl rfl 4 (by decide) (hts (.fieldLink RX3 16 "ObjectRowsModel" "kinds" "[I") (by decide +kernel)) (fun _ h9 => h9) rfl dX3_put_123 ?_
              refine lv_iload_n hx hb dX3_put_126 rfl (lv_at hl 2 rfl) ?_
              refine va_iald hx hb hK hP 1 0 rfl rfl (hv o b2).1 dX3_put_127 ?_
              refine lv_topi (fun y70 ey70 => ?_)
              obtain rfl : y70 = mK t o := ey70
              refine lv_iconst (v := 4) hx hb dX3_put_128 (by decide) ?_
              refine lv_icmp_ne (tgt := 160) hx hb dX3_put_129 (by decide) (fun _ => ?_) (fun c71 => absurd c71 c37)
              refine lv_aload_n hx hb dX3_put_160 rfl (lv_at hl 1 rfl) ?_
              refine va_get (D := D) (ci := 4) (v := .ref (mH ad 7)) (C := RX3) (T := TX3) (N := 19) hx hb hts iwX3 hown hK hP 0 rfl rfl 11 (by decide) (hts (.fieldLink RX3 40 "ObjectRowsModel" "elements" "[I") (by decide +kernel)) (fun _ h9 => h9) rfl dX3_put_161 ?_
              refine lv_bipush (v := 32) hx hb dX3_put_164 (by decide) ?_
              refine lv_aload_n hx hb dX3_put_166 rfl (lv_at hl 1 rfl) ?_
              refine va_get (D := D) (ci := 4) (v := .ref (mH ad 1)) (C := RX3) (T := TX3) (N := 19) hx hb hts iwX3 hown hK hP 0 rfl rfl 5 (by decide) (hts (.fieldLink RX3 20 "ObjectRowsModel" "numbers" "[I") (by decide +kernel)) (fun _ h9 => h9) rfl dX3_put_167 ?_
              refine lv_iload_n hx hb dX3_put_170 rfl (lv_at hl 2 rfl) ?_
              refine va_iald hx hb hK hP 2 0 rfl rfl (hv o b2).1 dX3_put_171 ?_
              refine lv_topi (fun y72 ey72 => ?_)
              obtain rfl : y72 = mNu t o := ey72
              refine lv_imul hx hb dX3_put_172 ?_
              refine lv_aload_n hx hb dX3_put_173 rfl (lv_at hl 1 rfl) ?_
              refine va_get (D := D) (ci := 4) (v := .ref (mH ad 2)) (C := RX3) (T := TX3) (N := 19) hx hb hts iwX3 hown hK hP 0 rfl rfl 6 (by decide) (hts (.fieldLink RX3 23 "ObjectRowsModel" "froms" "[I") (by decide +kernel)) (fun _ h9 => h9) rfl dX3_put_174 ?_
              refine lv_iload_n hx hb dX3_put_177 rfl (lv_at hl 2 rfl) ?_
              refine va_iald hx hb hK hP 3 0 rfl rfl (hv o b2).1 dX3_put_178 ?_
              refine lv_topi (fun y73 ey73 => ?_)
              obtain rfl : y73 = mFr t o := ey73
              refine lv_iadd hx hb dX3_put_179 ?_
              refine lv_iload_n hx hb dX3_put_180 rfl (lv_at hl 3 rfl) ?_
              refine lv_iadd hx hb dX3_put_181 ?_
              refine lv_iload_n hx hb dX3_put_182 rfl (lv_at hl 4 rfl) ?_
              refine mAst7 (ad := ad) hx hb hK hP hD hS ((hv o b2).2.2.2.2.1 (qV5 c6) c37 i ((hv o b2).2.2.2.1 (qV5 c6) i b62).1 ((hv o b2).2.2.2.1 (qV5 c6) i b62).2) dX3_put_183 (fun H locs hP hD hS => ?_)
              refine lv_iconst (v := 1) hx hb dX3_put_184 (by decide) ?_
              refine W.widen (k := 0) (n := 0) (by omega) (by omega) ?_
              exact weI (wf := fun u : MS => mW Y ad u) (mUp (mSetThr t 0) 7 (((32 * (mNu t o)) + (mFr t o)) + i) v) hx hb hr hlocks hP hD hS dX3_put_185 (⟨by first | (simp only [fPut, b2, c6, b33, c37, b62, c69, decide_true, decide_false, Bool.not_true, Bool.not_false, Bool.and_true, Bool.true_and, Bool.and_false, Bool.false_and, Bool.or_true, Bool.true_or, Bool.or_false, Bool.false_or, Bool.and_self, Bool.or_self, if_true, if_false, ite_true, ite_false, Bool.false_eq_true, reduceIte, not_true_eq_false, not_false_eq_true, and_true, true_and, and_false, false_and, or_true, true_or, or_false, false_or, and_self, or_self, eq_self, decide_eq_true_eq, Bool.true_eq_false, reduceCtorEq, ne_eq]; done) | (simp [fPut, b2, c6, b33, c37, b62, c69]; done) | (simp only [fPut, b2, eq_true c6, b33, c37, b62, eq_true c69, decide_true, decide_false, Bool.not_true, Bool.not_false, Bool.and_true, Bool.true_and, Bool.and_false, Bool.false_and, Bool.or_true, Bool.true_or, Bool.or_false, Bool.false_or, Bool.and_self, Bool.or_self, if_true, if_false, ite_true, ite_false, Bool.false_eq_true, reduceIte, not_true_eq_false, not_false_eq_true, and_true, true_and, and_false, false_and, or_true, true_or, or_false, false_or, and_self, or_self, eq_self, decide_eq_true_eq, Bool.true_eq_false, reduceCtorEq, ne_eq]; done) | (simp [fPut, b2, eq_true c6, b33, c37, b62, eq_true c69]; done), by first | (simp only [fPut, b2, c6, b33, c37, b62, c69, decide_true, decide_false, Bool.not_true, Bool.not_false, Bool.and_true, Bool.true_and, Bool.and_false, Bool.false_and, Bool.or_true, Bool.true_or, Bool.or_false, Bool.false_or, Bool.and_self, Bool.or_self, if_true, if_false, ite_true, ite_false, Bool.false_eq_true, reduceIte, not_true_eq_false, not_false_eq_true, and_true, true_and, and_false, false_and, or_true, true_or, or_false, false_or, and_self, or_self, eq_self, decide_eq_true_eq, Bool.true_eq_false, reduceCtorEq, ne_eq]; done) | (simp [fPut, b2, c6, b33, c37, b62, c69]; done) | (simp only [fPut, b2, eq_true c6, b33, c37, b62, eq_true c69, decide_true, decide_false, Bool.not_true, Bool.not_false, Bool.and_true, Bool.true_and, Bool.and_false, Bool.false_and, Bool.or_true, Bool.true_or, Bool.or_false, Bool.false_or, Bool.and_self, Bool.or_self, if_true, if_false, ite_true, ite_false, Bool.false_eq_true, reduceIte, not_true_eq_false, not_false_eq_true, and_true, true_and, and_false, false_and, or_true, true_or, or_false, false_or, and_self, or_self, eq_self, decide_eq_true_eq, Bool.true_eq_false, reduceCtorEq, ne_eq]; done) | (simp [fPut, b2, eq_true c6, b33, c37, b62, eq_true c69]; done)⟩)
            · skip
              refine lv_bipush (v := (-3)) hx hb dX3_put_119 (by decide) ?_
              refine W.widen (k := 0) (n := 0) (by omega) (by omega) ?_
              exact weI (wf := fun u : MS => mW Y ad u) (mSetThr t 0) hx hb hr hlocks hP hD hS dX3_put_121 (⟨by first | (simp only [fPut, b2, c6, b33, c37, b62, c69, decide_true, decide_false, Bool.not_true, Bool.not_false, Bool.and_true, Bool.true_and, Bool.and_false, Bool.false_and, Bool.or_true, Bool.true_or, Bool.or_false, Bool.false_or, Bool.and_self, Bool.or_self, if_true, if_false, ite_true, ite_false, Bool.false_eq_true, reduceIte, not_true_eq_false, not_false_eq_true, and_true, true_and, and_false, false_and, or_true, true_or, or_false, false_or, and_self, or_self, eq_self, decide_eq_true_eq, Bool.true_eq_false, reduceCtorEq, ne_eq]; done) | (simp [fPut, b2, c6, b33, c37, b62, c69]; done) | (simp only [fPut, b2, eq_true c6, b33, c37, b62, c69, decide_true, decide_false, Bool.not_true, Bool.not_false, Bool.and_true, Bool.true_and, Bool.and_false, Bool.false_and, Bool.or_true, Bool.true_or, Bool.or_false, Bool.false_or, Bool.and_self, Bool.or_self, if_true, if_false, ite_true, ite_false, Bool.false_eq_true, reduceIte, not_true_eq_false, not_false_eq_true, and_true, true_and, and_false, false_and, or_true, true_or, or_false, false_or, and_self, or_self, eq_self, decide_eq_true_eq, Bool.true_eq_false, reduceCtorEq, ne_eq]; done) | (simp [fPut, b2, eq_true c6, b33, c37, b62, c69]; done), by first | (simp only [fPut, b2, c6, b33, c37, b62, c69, decide_true, decide_false, Bool.not_true, Bool.not_false, Bool.and_true, Bool.true_and, Bool.and_false, Bool.false_and, Bool.or_true, Bool.true_or, Bool.or_false, Bool.false_or, Bool.and_self, Bool.or_self, if_true, if_false, ite_true, ite_false, Bool.false_eq_true, reduceIte, not_true_eq_false, not_false_eq_true, and_true, true_and, and_false, false_and, or_true, true_or, or_false, false_or, and_self, or_self, eq_self, decide_eq_true_eq, Bool.true_eq_false, reduceCtorEq, ne_eq]; done) | (simp [fPut, b2, c6, b33, c37, b62, c69]; done) | (simp only [fPut, b2, eq_true c6, b33, c37, b62, c69, decide_true, decide_false, Bool.not_true, Bool.not_false, Bool.and_true, Bool.true_and, Bool.and_false, Bool.false_and, Bool.or_true, Bool.true_or, Bool.or_false, Bool.false_or, Bool.and_self, Bool.or_self, if_true, if_false, ite_true, ite_false, Bool.false_eq_true, reduceIte, not_true_eq_false, not_false_eq_true, and_true, true_and, and_false, false_and, or_true, true_or, or_false, false_or, and_self, or_self, eq_self, decide_eq_true_eq, Bool.true_eq_false, reduceCtorEq, ne_eq]; done) | (simp [fPut, b2, eq_true c6, b33, c37, b62, c69]; done)⟩)
theorem hdX3_put : yX3_put.cls = RX3 ∧ yX3_put.cls ≠ "java/lang/invoke/MethodHandle" ∧ yX3_put.cls ≠ "java/lang/invoke/VarHandle" ∧ (parseMethodDescriptor yX3_put.desc).map (fun d => d.parameters.length) = some 3 := by decide +kernel
set_option maxHeartbeats 4000000 in
set_option maxRecDepth 100000 in
theorem c_X3_attribute (l : Launch) (D : va_G) (Y : Nat → ClassId) (ad : MA) (t : MS) (sz : Nat) (o : Int32) (w : Int32) (v : Int32) (hv : ∀ o, qObj t o = true → mV t o)  : Met l yX3_attribute wsX3_attribute ({ frames := 2, cells := 0, slots := 0, locals := 43 }) (wrPc D Y [.ref (mO ad), .int o, .int w, .int v] (mW Y ad t) sz) (va_Qi (fun (ans : Int32) (u : MS) => ans = (fAttr t o w v).1 ∧ u = (fAttr t o w v).2) (wrB D (va_A (mW Y ad t) sz) (fun u : MS => mW Y ad u)) (va_A (mW Y ad t) sz)) (0) (0) (va_A (mW Y ad t) sz) := by
  refine wrOf (Qc := fun A => va_Qi (fun (ans : Int32) (u : MS) => ans = (fAttr t o w v).1 ∧ u = (fAttr t o w v).2) (wrB D A (fun u : MS => mW Y ad u)) A) (cc := cX3_attribute) (maxL := 4) (ret := (some .int)) (own := RX3) (by decide) rfl rfl (Nat.le_of_ble_eq_true rfl) ?_
  intro p e s m below meth c ls A hx hb hr hts hown hml hlocks hin hA hP hD hS hK hl
  have iwX3 : ∀ w ∈ u_ws RX3 TX3 19, w ∈ wsX3_attribute := fun _ h => List.mem_cons_of_mem _ (List.mem_append_right _ h)
  have hl : lv_has ls 4 [(0, .ref (mO ad)), (1, .int o), (2, .int w), (3, .int v)] := hl
  have hS : va_S A s.heap s.heap [] := hS
  refine lv_aload_n hx hb dX3_attribute_0 rfl (lv_at hl 0 rfl) ?_
  refine lv_iconst (v := 0) hx hb dX3_attribute_1 (by decide) ?_
  refine mFput0 (ad := ad) hx hb hts iwX3 hown hK hP hD hS (hts (.fieldLink RX3 65 "ObjectRowsModel" "thrown" "I") (by decide +kernel)) dX3_attribute_2 (fun H locs hP hD hS => ?_)
  refine lv_aload_n hx hb dX3_attribute_5 rfl (lv_at hl 0 rfl) ?_
  refine lv_iload_n hx hb dX3_attribute_6 rfl (lv_at hl 1 rfl) ?_
  refine rcI (As := [.int o]) (rest := []) ⟨hx, hb, hml, hown, hts⟩ (c_X3_isObject l D Y ad (mSetThr t 0) o ) (cwV 1 hts gX3_attribute_X3_isObject rfl rfl rfl hdX3_isObject ⟨Nat.le_of_ble_eq_true rfl, Nat.le_of_ble_eq_true rfl⟩) hP hK 0 4 rfl rfl rfl hl.1 rfl (Nat.le_of_ble_eq_true rfl) dX3_attribute_7 ⟨(Nat.zero_le _), (Nat.zero_le _)⟩ (fun r1 hr1 => ?_)
  replace hr1 : r1 = bI (qObj t o) := hr1
  cases b2 : qObj t o
  · replace hr1 : r1 = 0 := by rw [hr1, b2]; rfl
    subst hr1
    refine lv_if_ne (tgt := 15) hx hb dX3_attribute_10 (by decide) (fun c3 => absurd (by decide) c3) (fun _ => ?_)
    refine lv_iconst (v := (-1)) hx hb dX3_attribute_13 (by decide) ?_
    refine W.widen (k := 0) (n := 0) (by omega) (by omega) ?_
    exact weI (wf := fun u : MS => mW Y ad u) (mSetThr t 0) hx hb hr hlocks hP hD hS dX3_attribute_14 (⟨by first | (simp only [fAttr, b2, decide_true, decide_false, Bool.not_true, Bool.not_false, Bool.and_true, Bool.true_and, Bool.and_false, Bool.false_and, Bool.or_true, Bool.true_or, Bool.or_false, Bool.false_or, Bool.and_self, Bool.or_self, if_true, if_false, ite_true, ite_false, Bool.false_eq_true, reduceIte, not_true_eq_false, not_false_eq_true, and_true, true_and, and_false, false_and, or_true, true_or, or_false, false_or, and_self, or_self, eq_self, decide_eq_true_eq, Bool.true_eq_false, reduceCtorEq, ne_eq]; done) | (simp [fAttr, b2]; done), by first | (simp only [fAttr, b2, decide_true, decide_false, Bool.not_true, Bool.not_false, Bool.and_true, Bool.true_and, Bool.and_false, Bool.false_and, Bool.or_true, Bool.true_or, Bool.or_false, Bool.false_or, Bool.and_self, Bool.or_self, if_true, if_false, ite_true, ite_false, Bool.false_eq_true, reduceIte, not_true_eq_false, not_false_eq_true, and_true, true_and, and_false, false_and, or_true, true_or, or_false, false_or, and_self, or_self, eq_self, decide_eq_true_eq, Bool.true_eq_false, reduceCtorEq, ne_eq]; done) | (simp [fAttr, b2]; done)⟩)
  · replace hr1 : r1 = 1 := by rw [hr1, b2]; rfl
    subst hr1
    refine lv_if_ne (tgt := 15) hx hb dX3_attribute_10 (by decide) (fun _ => ?_) (fun c4 => absurd c4 (by decide))
    refine lv_iload_n hx hb dX3_attribute_15 rfl (lv_at hl 2 rfl) ?_
    refine lv_iconst (v := 0) hx hb dX3_attribute_16 (by decide) ?_
    refine lv_iconst (v := 2) hx hb dX3_attribute_17 (by decide) ?_
    refine scI (As := [.int w, .int 0, .int 2]) (rest := []) ⟨hx, hb, hml, hown, hts⟩ (c_X3_within l w 0 2) (va_cwS 3 hts gX3_attribute_X3_within rfl rfl rfl hdX3_within ⟨Nat.le_of_ble_eq_true rfl, Nat.le_of_ble_eq_true rfl⟩) rfl hl.1 rfl (Nat.le_of_ble_eq_true rfl) dX3_attribute_18 ⟨(Nat.zero_le _), (Nat.zero_le _)⟩ (fun r5 hr5 => ?_)
    replace hr5 : r5 = bI (qWithin w 0 2) := hr5
    cases b6 : qWithin w 0 2
    · replace hr5 : r5 = 0 := by rw [hr5, b6]; rfl
      subst hr5
      refine lv_if_eq (tgt := 42) hx hb dX3_attribute_21 (by decide) (fun _ => ?_) (fun c7 => absurd (by decide) c7)
      refine lv_bipush (v := (-2)) hx hb dX3_attribute_42 (by decide) ?_
      refine W.widen (k := 0) (n := 0) (by omega) (by omega) ?_
      exact weI (wf := fun u : MS => mW Y ad u) (mSetThr t 0) hx hb hr hlocks hP hD hS dX3_attribute_44 (⟨by first | (simp only [fAttr, b2, b6, decide_true, decide_false, Bool.not_true, Bool.not_false, Bool.and_true, Bool.true_and, Bool.and_false, Bool.false_and, Bool.or_true, Bool.true_or, Bool.or_false, Bool.false_or, Bool.and_self, Bool.or_self, if_true, if_false, ite_true, ite_false, Bool.false_eq_true, reduceIte, not_true_eq_false, not_false_eq_true, and_true, true_and, and_false, false_and, or_true, true_or, or_false, false_or, and_self, or_self, eq_self, decide_eq_true_eq, Bool.true_eq_false, reduceCtorEq, ne_eq]; done) | (simp [fAttr, b2, b6]; done), by first | (simp only [fAttr, b2, b6, decide_true, decide_false, Bool.not_true, Bool.not_false, Bool.and_true, Bool.true_and, Bool.and_false, Bool.false_and, Bool.or_true, Bool.true_or, Bool.or_false, Bool.false_or, Bool.and_self, Bool.or_self, if_true, if_false, ite_true, ite_false, Bool.false_eq_true, reduceIte, not_true_eq_false, not_false_eq_true, and_true, true_and, and_false, false_and, or_true, true_or, or_false, false_or, and_self, or_self, eq_self, decide_eq_true_eq, Bool.true_eq_false, reduceCtorEq, ne_eq]; done) | (simp [fAttr, b2, b6]; done)⟩)
    · replace hr5 : r5 = 1 := by rw [hr5, b6]; rfl
      subst hr5
      refine lv_if_eq (tgt := 42) hx hb dX3_attribute_21 (by decide) (fun c8 => absurd c8 (by decide)) (fun _ => ?_)
      refine lv_iload_n hx hb dX3_attribute_24 rfl (lv_at hl 3 rfl) ?_
      refine lv_iconst (v := 0) hx hb dX3_attribute_25 (by decide) ?_
      refine lv_iload_n hx hb dX3_attribute_26 rfl (lv_at hl 2 rfl) ?_
      refine lv_iconst (v := 1) hx hb dX3_attribute_27 (by decide) ?_
      refine lv_icmp_ne (tgt := 35) hx hb dX3_attribute_28 (by decide) (fun c9 => ?_) (fun c9 => ?_)
      · skip
        refine lv_iconst (v := 1) hx hb dX3_attribute_35 (by decide) ?_
        refine scI (As := [.int v, .int 0, .int 1]) (rest := []) ⟨hx, hb, hml, hown, hts⟩ (c_X3_within l v 0 1) (va_cwS 3 hts gX3_attribute_X3_within rfl rfl rfl hdX3_within ⟨Nat.le_of_ble_eq_true rfl, Nat.le_of_ble_eq_true rfl⟩) rfl hl.1 rfl (Nat.le_of_ble_eq_true rfl) dX3_attribute_36 ⟨(Nat.zero_le _), (Nat.zero_le _)⟩ (fun r10 hr10 => ?_)
        replace hr10 : r10 = bI (qWithin v 0 1) := hr10
        cases b11 : qWithin v 0 1
        · replace hr10 : r10 = 0 := by rw [hr10, b11]; rfl
          subst hr10
          refine lv_if_ne (tgt := 45) hx hb dX3_attribute_39 (by decide) (fun c12 => absurd (by decide) c12) (fun _ => ?_)
          refine lv_bipush (v := (-2)) hx hb dX3_attribute_42 (by decide) ?_
          refine W.widen (k := 0) (n := 0) (by omega) (by omega) ?_
          exact weI (wf := fun u : MS => mW Y ad u) (mSetThr t 0) hx hb hr hlocks hP hD hS dX3_attribute_44 (⟨by first | (simp only [fAttr, b2, b6, c9, b11, decide_true, decide_false, Bool.not_true, Bool.not_false, Bool.and_true, Bool.true_and, Bool.and_false, Bool.false_and, Bool.or_true, Bool.true_or, Bool.or_false, Bool.false_or, Bool.and_self, Bool.or_self, if_true, if_false, ite_true, ite_false, Bool.false_eq_true, reduceIte, not_true_eq_false, not_false_eq_true, and_true, true_and, and_false, false_and, or_true, true_or, or_false, false_or, and_self, or_self, eq_self, decide_eq_true_eq, Bool.true_eq_false, reduceCtorEq, ne_eq]; done) | (simp [fAttr, b2, b6, c9, b11]; done), by first | (simp only [fAttr, b2, b6, c9, b11, decide_true, decide_false, Bool.not_true, Bool.not_false, Bool.and_true, Bool.true_and, Bool.and_false, Bool.false_and, Bool.or_true, Bool.true_or, Bool.or_false, Bool.false_or, Bool.and_self, Bool.or_self, if_true, if_false, ite_true, ite_false, Bool.false_eq_true, reduceIte, not_true_eq_false, not_false_eq_true, and_true, true_and, and_false, false_and, or_true, true_or, or_false, false_or, and_self, or_self, eq_self, decide_eq_true_eq, Bool.true_eq_false, reduceCtorEq, ne_eq]; done) | (simp [fAttr, b2, b6, c9, b11]; done)⟩)
        · replace hr10 : r10 = 1 := by rw [hr10, b11]; rfl
          subst hr10
          refine lv_if_ne (tgt := 45) hx hb dX3_attribute_39 (by decide) (fun _ => ?_) (fun c13 => absurd c13 (by decide))
          refine lv_iload_n hx hb dX3_attribute_45 rfl (lv_at hl 2 rfl) ?_
          refine lv_iconst (v := 1) hx hb dX3_attribute_46 (by decide) ?_
          refine lv_icmp_ne (tgt := 67) hx hb dX3_attribute_47 (by decide) (fun _ => ?_) (fun c14 => absurd c14 c9)
          refine lv_iload_n hx hb dX3_attribute_67 rfl (lv_at hl 2 rfl) ?_
          refine lv_iconst (v := 2) hx hb dX3_attribute_68 (by decide) ?_
          refine lv_icmp_ne (tgt := 86) hx hb dX3_attribute_69 (by decide) (fun c15 => ?_) (fun c15 => ?_)
          · skip
            refine lv_iload_n hx hb dX3_attribute_86 rfl (lv_at hl 2 rfl) ?_
            refine lv_if_ne (tgt := 109) hx hb dX3_attribute_87 (by decide) (fun c16 => ?_) (fun c16 => ?_)
            · skip
              refine lv_iload_n hx hb dX3_attribute_109 rfl (lv_at hl 2 rfl) ?_
              refine lv_iconst (v := 1) hx hb dX3_attribute_110 (by decide) ?_
              refine lv_icmp_ne (tgt := 128) hx hb dX3_attribute_111 (by decide) (fun _ => ?_) (fun c17 => absurd c17 c9)
              exact (w012 b6 c16 c9 c15).elim
            · skip
              refine lv_aload_n hx hb dX3_attribute_90 rfl (lv_at hl 0 rfl) ?_
              refine va_get (D := D) (ci := 4) (v := .ref (mH ad 5)) (C := RX3) (T := TX3) (N := 19) hx hb hts iwX3 hown hK hP 0 rfl rfl 9 (by decide) (hts (.fieldLink RX3 33 "ObjectRowsModel" "executable" "[Z") (by decide +kernel)) (fun _ h9 => h9) rfl dX3_attribute_91 ?_
              refine lv_iload_n hx hb dX3_attribute_94 rfl (lv_at hl 1 rfl) ?_
              refine lv_iload_n hx hb dX3_attribute_95 rfl (lv_at hl 3 rfl) ?_
              refine lv_iconst (v := 1) hx hb dX3_attribute_96 (by decide) ?_
              refine lv_icmp_ne (tgt := 104) hx hb dX3_attribute_97 (by decide) (fun c18 => ?_) (fun c18 => ?_)
              · skip
                refine lv_iconst (v := 0) hx hb dX3_attribute_104 (by decide) ?_
                refine mAst5 (ad := ad) hx hb hK hP hD hS (in400 (hv o b2).1) dX3_attribute_105 (fun H locs hP hD hS => ?_)
                refine lv_goto (tgt := 149) hx hb dX3_attribute_106 (by decide) ?_
                refine lv_iconst (v := 1) hx hb dX3_attribute_149 (by decide) ?_
                refine W.widen (k := 0) (n := 0) (by omega) (by omega) ?_
                exact weI (wf := fun u : MS => mW Y ad u) (mUp (mSetThr t 0) 5 o (vp_nar .boolean 0)) hx hb hr hlocks hP hD hS dX3_attribute_150 (⟨by first | (simp only [fAttr, b2, b6, c9, b11, c15, c16, c18, decide_true, decide_false, Bool.not_true, Bool.not_false, Bool.and_true, Bool.true_and, Bool.and_false, Bool.false_and, Bool.or_true, Bool.true_or, Bool.or_false, Bool.false_or, Bool.and_self, Bool.or_self, if_true, if_false, ite_true, ite_false, Bool.false_eq_true, reduceIte, not_true_eq_false, not_false_eq_true, and_true, true_and, and_false, false_and, or_true, true_or, or_false, false_or, and_self, or_self, eq_self, decide_eq_true_eq, Bool.true_eq_false, reduceCtorEq, ne_eq]; done) | (simp [fAttr, b2, b6, c9, b11, c15, c16, c18]; done) | (simp only [fAttr, b2, b6, c9, b11, c15, eq_true c16, c18, decide_true, decide_false, Bool.not_true, Bool.not_false, Bool.and_true, Bool.true_and, Bool.and_false, Bool.false_and, Bool.or_true, Bool.true_or, Bool.or_false, Bool.false_or, Bool.and_self, Bool.or_self, if_true, if_false, ite_true, ite_false, Bool.false_eq_true, reduceIte, not_true_eq_false, not_false_eq_true, and_true, true_and, and_false, false_and, or_true, true_or, or_false, false_or, and_self, or_self, eq_self, decide_eq_true_eq, Bool.true_eq_false, reduceCtorEq, ne_eq]; done) | (simp [fAttr, b2, b6, c9, b11, c15, eq_true c16, c18]; done), by first | (simp only [fAttr, b2, b6, c9, b11, c15, c16, c18, decide_true, decide_false, Bool.not_true, Bool.not_false, Bool.and_true, Bool.true_and, Bool.and_false, Bool.false_and, Bool.or_true, Bool.true_or, Bool.or_false, Bool.false_or, Bool.and_self, Bool.or_self, if_true, if_false, ite_true, ite_false, Bool.false_eq_true, reduceIte, not_true_eq_false, not_false_eq_true, and_true, true_and, and_false, false_and, or_true, true_or, or_false, false_or, and_self, or_self, eq_self, decide_eq_true_eq, Bool.true_eq_false, reduceCtorEq, ne_eq]; done) | (simp [fAttr, b2, b6, c9, b11, c15, c16, c18]; done) | (simp only [fAttr, b2, b6, c9, b11, c15, eq_true c16, c18, decide_true, decide_false, Bool.not_true, Bool.not_false, Bool.and_true, Bool.true_and, Bool.and_false, Bool.false_and, Bool.or_true, Bool.true_or, Bool.or_false, Bool.false_or, Bool.and_self, Bool.or_self, if_true, if_false, ite_true, ite_false, Bool.false_eq_true, reduceIte, not_true_eq_false, not_false_eq_true, and_true, true_and, and_false, false_and, or_true, true_or, or_false, false_or, and_self, or_self, eq_self, decide_eq_true_eq, Bool.true_eq_false, reduceCtorEq, ne_eq]; done) | (simp [fAttr, b2, b6, c9, b11, c15, eq_true c16, c18]; done)⟩)
              · skip
                refine lv_iconst (v := 1) hx hb dX3_attribute_100 (by decide) ?_
                refine lv_goto (tgt := 105) hx hb dX3_attribute_101 (by decide) ?_
                refine mAst5 (ad := ad) hx hb hK hP hD hS (in400 (hv o b2).1) dX3_attribute_105 (fun H locs hP hD hS => ?_)
                refine lv_goto (tgt := 149) hx hb dX3_attribute_106 (by decide) ?_
                refine lv_iconst (v := 1) hx hb dX3_attribute_149 (by decide) ?_
                refine W.widen (k := 0) (n := 0) (by omega) (by omega) ?_
                exact weI (wf := fun u : MS => mW Y ad u) (mUp (mSetThr t 0) 5 o (vp_nar .boolean 1)) hx hb hr hlocks hP hD hS dX3_attribute_150 (⟨by first | (simp only [fAttr, b2, b6, c9, b11, c15, c16, c18, decide_true, decide_false, Bool.not_true, Bool.not_false, Bool.and_true, Bool.true_and, Bool.and_false, Bool.false_and, Bool.or_true, Bool.true_or, Bool.or_false, Bool.false_or, Bool.and_self, Bool.or_self, if_true, if_false, ite_true, ite_false, Bool.false_eq_true, reduceIte, not_true_eq_false, not_false_eq_true, and_true, true_and, and_false, false_and, or_true, true_or, or_false, false_or, and_self, or_self, eq_self, decide_eq_true_eq, Bool.true_eq_false, reduceCtorEq, ne_eq]; done) | (simp [fAttr, b2, b6, c9, b11, c15, c16, c18]; done) | (simp only [fAttr, b2, b6, c9, b11, c15, eq_true c16, eq_true c18, decide_true, decide_false, Bool.not_true, Bool.not_false, Bool.and_true, Bool.true_and, Bool.and_false, Bool.false_and, Bool.or_true, Bool.true_or, Bool.or_false, Bool.false_or, Bool.and_self, Bool.or_self, if_true, if_false, ite_true, ite_false, Bool.false_eq_true, reduceIte, not_true_eq_false, not_false_eq_true, and_true, true_and, and_false, false_and, or_true, true_or, or_false, false_or, and_self, or_self, eq_self, decide_eq_true_eq, Bool.true_eq_false, reduceCtorEq, ne_eq]; done) | (simp [fAttr, b2, b6, c9, b11, c15, eq_true c16, eq_true c18]; done), by first | (simp only [fAttr, b2, b6, c9, b11, c15, c16, c18, decide_true, decide_false, Bool.not_true, Bool.not_false, Bool.and_true, Bool.true_and, Bool.and_false, Bool.false_and, Bool.or_true, Bool.true_or, Bool.or_false, Bool.false_or, Bool.and_self, Bool.or_self, if_true, if_false, ite_true, ite_false, Bool.false_eq_true, reduceIte, not_true_eq_false, not_false_eq_true, and_true, true_and, and_false, false_and, or_true, true_or, or_false, false_or, and_self, or_self, eq_self, decide_eq_true_eq, Bool.true_eq_false, reduceCtorEq, ne_eq]; done) | (simp [fAttr, b2, b6, c9, b11, c15, c16, c18]; done) | (simp only [fAttr, b2, b6, c9, b11, c15, eq_true c16, eq_true c18, decide_true, decide_false, Bool.not_true, Bool.not_false, Bool.and_true, Bool.true_and, Bool.and_false, Bool.false_and, Bool.or_true, Bool.true_or, Bool.or_false, Bool.false_or, Bool.and_self, Bool.or_self, if_true, if_false, ite_true, ite_false, Bool.false_eq_true, reduceIte, not_true_eq_false, not_false_eq_true, and_true, true_and, and_false, false_and, or_true, true_or, or_false, false_or, and_self, or_self, eq_self, decide_eq_true_eq, Bool.true_eq_false, reduceCtorEq, ne_eq]; done) | (simp [fAttr, b2, b6, c9, b11, c15, eq_true c16, eq_true c18]; done)⟩)
          · skip
            refine lv_aload_n hx hb dX3_attribute_72 rfl (lv_at hl 0 rfl) ?_
            refine va_get (D := D) (ci := 4) (v := .ref (mH ad 0)) (C := RX3) (T := TX3) (N := 19) hx hb hts iwX3 hown hK hP 0 rfl rfl 4 (by decide) (hts (.fieldLink RX3 16 "ObjectRowsModel" "kinds" "[I") (by decide +kernel)) (fun _ h9 => h9) rfl dX3_attribute_73 ?_
            refine lv_iload_n hx hb dX3_attribute_76 rfl (lv_at hl 1 rfl) ?_
            refine va_iald hx hb hK hP 1 0 rfl rfl (hv o b2).1 dX3_attribute_77 ?_
            refine lv_topi (fun y19 ey19 => ?_)
            obtain rfl : y19 = mK t o := ey19
            refine lv_bipush (v := 7) hx hb dX3_attribute_78 (by decide) ?_
            refine lv_icmp_eq (tgt := 86) hx hb dX3_attribute_80 (by decide) (fun c20 => ?_) (fun c20 => ?_)
            · skip
              refine lv_iload_n hx hb dX3_attribute_86 rfl (lv_at hl 2 rfl) ?_
              refine lv_if_ne (tgt := 109) hx hb dX3_attribute_87 (by decide) (fun c21 => ?_) (fun c21 => ?_)
              · skip
                refine lv_iload_n hx hb dX3_attribute_109 rfl (lv_at hl 2 rfl) ?_
                refine lv_iconst (v := 1) hx hb dX3_attribute_110 (by decide) ?_
                refine lv_icmp_ne (tgt := 128) hx hb dX3_attribute_111 (by decide) (fun _ => ?_) (fun c22 => absurd c22 c9)
                refine lv_aload_n hx hb dX3_attribute_128 rfl (lv_at hl 0 rfl) ?_
                refine va_get (D := D) (ci := 4) (v := .ref (mH ad 9)) (C := RX3) (T := TX3) (N := 19) hx hb hts iwX3 hown hK hP 0 rfl rfl 13 (by decide) (hts (.fieldLink RX3 46 "ObjectRowsModel" "grows" "[Z") (by decide +kernel)) (fun _ h9 => h9) rfl dX3_attribute_129 ?_
                refine lv_aload_n hx hb dX3_attribute_132 rfl (lv_at hl 0 rfl) ?_
                refine va_get (D := D) (ci := 4) (v := .ref (mH ad 1)) (C := RX3) (T := TX3) (N := 19) hx hb hts iwX3 hown hK hP 0 rfl rfl 5 (by decide) (hts (.fieldLink RX3 20 "ObjectRowsModel" "numbers" "[I") (by decide +kernel)) (fun _ h9 => h9) rfl dX3_attribute_133 ?_
                refine lv_iload_n hx hb dX3_attribute_136 rfl (lv_at hl 1 rfl) ?_
                refine va_iald hx hb hK hP 2 0 rfl rfl (hv o b2).1 dX3_attribute_137 ?_
                refine lv_topi (fun y23 ey23 => ?_)
                obtain rfl : y23 = mNu t o := ey23
                refine lv_iload_n hx hb dX3_attribute_138 rfl (lv_at hl 3 rfl) ?_
                refine lv_iconst (v := 1) hx hb dX3_attribute_139 (by decide) ?_
                refine lv_icmp_ne (tgt := 147) hx hb dX3_attribute_140 (by decide) (fun c24 => ?_) (fun c24 => ?_)
                · skip
                  refine lv_iconst (v := 0) hx hb dX3_attribute_147 (by decide) ?_
                  refine mAst9 (ad := ad) hx hb hK hP hD hS ((hv o b2).2.2.2.2.2 c20).1 dX3_attribute_148 (fun H locs hP hD hS => ?_)
                  refine lv_iconst (v := 1) hx hb dX3_attribute_149 (by decide) ?_
                  refine W.widen (k := 0) (n := 0) (by omega) (by omega) ?_
                  exact weI (wf := fun u : MS => mW Y ad u) (mUp (mSetThr t 0) 9 (mNu t o) (vp_nar .boolean 0)) hx hb hr hlocks hP hD hS dX3_attribute_150 (⟨by first | (simp only [fAttr, b2, b6, c9, b11, c15, c20, c21, c24, decide_true, decide_false, Bool.not_true, Bool.not_false, Bool.and_true, Bool.true_and, Bool.and_false, Bool.false_and, Bool.or_true, Bool.true_or, Bool.or_false, Bool.false_or, Bool.and_self, Bool.or_self, if_true, if_false, ite_true, ite_false, Bool.false_eq_true, reduceIte, not_true_eq_false, not_false_eq_true, and_true, true_and, and_false, false_and, or_true, true_or, or_false, false_or, and_self, or_self, eq_self, decide_eq_true_eq, Bool.true_eq_false, reduceCtorEq, ne_eq]; done) | (simp [fAttr, b2, b6, c9, b11, c15, c20, c21, c24]; done) | (simp only [fAttr, b2, b6, c9, b11, eq_true c15, eq_true c20, c21, c24, decide_true, decide_false, Bool.not_true, Bool.not_false, Bool.and_true, Bool.true_and, Bool.and_false, Bool.false_and, Bool.or_true, Bool.true_or, Bool.or_false, Bool.false_or, Bool.and_self, Bool.or_self, if_true, if_false, ite_true, ite_false, Bool.false_eq_true, reduceIte, not_true_eq_false, not_false_eq_true, and_true, true_and, and_false, false_and, or_true, true_or, or_false, false_or, and_self, or_self, eq_self, decide_eq_true_eq, Bool.true_eq_false, reduceCtorEq, ne_eq]; done) | (simp [fAttr, b2, b6, c9, b11, eq_true c15, eq_true c20, c21, c24]; done), by first | (simp only [fAttr, b2, b6, c9, b11, c15, c20, c21, c24, decide_true, decide_false, Bool.not_true, Bool.not_false, Bool.and_true, Bool.true_and, Bool.and_false, Bool.false_and, Bool.or_true, Bool.true_or, Bool.or_false, Bool.false_or, Bool.and_self, Bool.or_self, if_true, if_false, ite_true, ite_false, Bool.false_eq_true, reduceIte, not_true_eq_false, not_false_eq_true, and_true, true_and, and_false, false_and, or_true, true_or, or_false, false_or, and_self, or_self, eq_self, decide_eq_true_eq, Bool.true_eq_false, reduceCtorEq, ne_eq]; done) | (simp [fAttr, b2, b6, c9, b11, c15, c20, c21, c24]; done) | (simp only [fAttr, b2, b6, c9, b11, eq_true c15, eq_true c20, c21, c24, decide_true, decide_false, Bool.not_true, Bool.not_false, Bool.and_true, Bool.true_and, Bool.and_false, Bool.false_and, Bool.or_true, Bool.true_or, Bool.or_false, Bool.false_or, Bool.and_self, Bool.or_self, if_true, if_false, ite_true, ite_false, Bool.false_eq_true, reduceIte, not_true_eq_false, not_false_eq_true, and_true, true_and, and_false, false_and, or_true, true_or, or_false, false_or, and_self, or_self, eq_self, decide_eq_true_eq, Bool.true_eq_false, reduceCtorEq, ne_eq]; done) | (simp [fAttr, b2, b6, c9, b11, eq_true c15, eq_true c20, c21, c24]; done)⟩)
                · skip
                  refine lv_iconst (v := 1) hx hb dX3_attribute_143 (by decide) ?_
                  refine lv_goto (tgt := 148) hx hb dX3_attribute_144 (by decide) ?_
                  refine mAst9 (ad := ad) hx hb hK hP hD hS ((hv o b2).2.2.2.2.2 c20).1 dX3_attribute_148 (fun H locs hP hD hS => ?_)
                  refine lv_iconst (v := 1) hx hb dX3_attribute_149 (by decide) ?_
                  refine W.widen (k := 0) (n := 0) (by omega) (by omega) ?_
                  exact weI (wf := fun u : MS => mW Y ad u) (mUp (mSetThr t 0) 9 (mNu t o) (vp_nar .boolean 1)) hx hb hr hlocks hP hD hS dX3_attribute_150 (⟨by first | (simp only [fAttr, b2, b6, c9, b11, c15, c20, c21, c24, decide_true, decide_false, Bool.not_true, Bool.not_false, Bool.and_true, Bool.true_and, Bool.and_false, Bool.false_and, Bool.or_true, Bool.true_or, Bool.or_false, Bool.false_or, Bool.and_self, Bool.or_self, if_true, if_false, ite_true, ite_false, Bool.false_eq_true, reduceIte, not_true_eq_false, not_false_eq_true, and_true, true_and, and_false, false_and, or_true, true_or, or_false, false_or, and_self, or_self, eq_self, decide_eq_true_eq, Bool.true_eq_false, reduceCtorEq, ne_eq]; done) | (simp [fAttr, b2, b6, c9, b11, c15, c20, c21, c24]; done) | (simp only [fAttr, b2, b6, c9, b11, eq_true c15, eq_true c20, c21, eq_true c24, decide_true, decide_false, Bool.not_true, Bool.not_false, Bool.and_true, Bool.true_and, Bool.and_false, Bool.false_and, Bool.or_true, Bool.true_or, Bool.or_false, Bool.false_or, Bool.and_self, Bool.or_self, if_true, if_false, ite_true, ite_false, Bool.false_eq_true, reduceIte, not_true_eq_false, not_false_eq_true, and_true, true_and, and_false, false_and, or_true, true_or, or_false, false_or, and_self, or_self, eq_self, decide_eq_true_eq, Bool.true_eq_false, reduceCtorEq, ne_eq]; done) | (simp [fAttr, b2, b6, c9, b11, eq_true c15, eq_true c20, c21, eq_true c24]; done), by first | (simp only [fAttr, b2, b6, c9, b11, c15, c20, c21, c24, decide_true, decide_false, Bool.not_true, Bool.not_false, Bool.and_true, Bool.true_and, Bool.and_false, Bool.false_and, Bool.or_true, Bool.true_or, Bool.or_false, Bool.false_or, Bool.and_self, Bool.or_self, if_true, if_false, ite_true, ite_false, Bool.false_eq_true, reduceIte, not_true_eq_false, not_false_eq_true, and_true, true_and, and_false, false_and, or_true, true_or, or_false, false_or, and_self, or_self, eq_self, decide_eq_true_eq, Bool.true_eq_false, reduceCtorEq, ne_eq]; done) | (simp [fAttr, b2, b6, c9, b11, c15, c20, c21, c24]; done) | (simp only [fAttr, b2, b6, c9, b11, eq_true c15, eq_true c20, c21, eq_true c24, decide_true, decide_false, Bool.not_true, Bool.not_false, Bool.and_true, Bool.true_and, Bool.and_false, Bool.false_and, Bool.or_true, Bool.true_or, Bool.or_false, Bool.false_or, Bool.and_self, Bool.or_self, if_true, if_false, ite_true, ite_false, Bool.false_eq_true, reduceIte, not_true_eq_false, not_false_eq_true, and_true, true_and, and_false, false_and, or_true, true_or, or_false, false_or, and_self, or_self, eq_self, decide_eq_true_eq, Bool.true_eq_false, reduceCtorEq, ne_eq]; done) | (simp [fAttr, b2, b6, c9, b11, eq_true c15, eq_true c20, c21, eq_true c24]; done)⟩)
              · skip
                refine lv_aload_n hx hb dX3_attribute_90 rfl (lv_at hl 0 rfl) ?_
                refine va_get (D := D) (ci := 4) (v := .ref (mH ad 5)) (C := RX3) (T := TX3) (N := 19) hx hb hts iwX3 hown hK hP 0 rfl rfl 9 (by decide) (hts (.fieldLink RX3 33 "ObjectRowsModel" "executable" "[Z") (by decide +kernel)) (fun _ h9 => h9) rfl dX3_attribute_91 ?_
                refine lv_iload_n hx hb dX3_attribute_94 rfl (lv_at hl 1 rfl) ?_
                refine lv_iload_n hx hb dX3_attribute_95 rfl (lv_at hl 3 rfl) ?_
                refine lv_iconst (v := 1) hx hb dX3_attribute_96 (by decide) ?_
                refine lv_icmp_ne (tgt := 104) hx hb dX3_attribute_97 (by decide) (fun c25 => ?_) (fun c25 => ?_)
                · skip
                  refine lv_iconst (v := 0) hx hb dX3_attribute_104 (by decide) ?_
                  refine mAst5 (ad := ad) hx hb hK hP hD hS (in400 (hv o b2).1) dX3_attribute_105 (fun H locs hP hD hS => ?_)
                  refine lv_goto (tgt := 149) hx hb dX3_attribute_106 (by decide) ?_
                  refine lv_iconst (v := 1) hx hb dX3_attribute_149 (by decide) ?_
                  refine W.widen (k := 0) (n := 0) (by omega) (by omega) ?_
                  exact weI (wf := fun u : MS => mW Y ad u) (mUp (mSetThr t 0) 5 o (vp_nar .boolean 0)) hx hb hr hlocks hP hD hS dX3_attribute_150 (⟨by first | (simp only [fAttr, b2, b6, c9, b11, c15, c20, c21, c25, decide_true, decide_false, Bool.not_true, Bool.not_false, Bool.and_true, Bool.true_and, Bool.and_false, Bool.false_and, Bool.or_true, Bool.true_or, Bool.or_false, Bool.false_or, Bool.and_self, Bool.or_self, if_true, if_false, ite_true, ite_false, Bool.false_eq_true, reduceIte, not_true_eq_false, not_false_eq_true, and_true, true_and, and_false, false_and, or_true, true_or, or_false, false_or, and_self, or_self, eq_self, decide_eq_true_eq, Bool.true_eq_false, reduceCtorEq, ne_eq]; done) | (simp [fAttr, b2, b6, c9, b11, c15, c20, c21, c25]; done) | (simp only [fAttr, b2, b6, c9, b11, eq_true c15, eq_true c20, eq_true c21, c25, decide_true, decide_false, Bool.not_true, Bool.not_false, Bool.and_true, Bool.true_and, Bool.and_false, Bool.false_and, Bool.or_true, Bool.true_or, Bool.or_false, Bool.false_or, Bool.and_self, Bool.or_self, if_true, if_false, ite_true, ite_false, Bool.false_eq_true, reduceIte, not_true_eq_false, not_false_eq_true, and_true, true_and, and_false, false_and, or_true, true_or, or_false, false_or, and_self, or_self, eq_self, decide_eq_true_eq, Bool.true_eq_false, reduceCtorEq, ne_eq]; done) | (simp [fAttr, b2, b6, c9, b11, eq_true c15, eq_true c20, eq_true c21, c25]; done), by first | (simp only [fAttr, b2, b6, c9, b11, c15, c20, c21, c25, decide_true, decide_false, Bool.not_true, Bool.not_false, Bool.and_true, Bool.true_and, Bool.and_false, Bool.false_and, Bool.or_true, Bool.true_or, Bool.or_false, Bool.false_or, Bool.and_self, Bool.or_self, if_true, if_false, ite_true, ite_false, Bool.false_eq_true, reduceIte, not_true_eq_false, not_false_eq_true, and_true, true_and, and_false, false_and, or_true, true_or, or_false, false_or, and_self, or_self, eq_self, decide_eq_true_eq, Bool.true_eq_false, reduceCtorEq, ne_eq]; done) | (simp [fAttr, b2, b6, c9, b11, c15, c20, c21, c25]; done) | (simp only [fAttr, b2, b6, c9, b11, eq_true c15, eq_true c20, eq_true c21, c25, decide_true, decide_false, Bool.not_true, Bool.not_false, Bool.and_true, Bool.true_and, Bool.and_false, Bool.false_and, Bool.or_true, Bool.true_or, Bool.or_false, Bool.false_or, Bool.and_self, Bool.or_self, if_true, if_false, ite_true, ite_false, Bool.false_eq_true, reduceIte, not_true_eq_false, not_false_eq_true, and_true, true_and, and_false, false_and, or_true, true_or, or_false, false_or, and_self, or_self, eq_self, decide_eq_true_eq, Bool.true_eq_false, reduceCtorEq, ne_eq]; done) | (simp [fAttr, b2, b6, c9, b11, eq_true c15, eq_true c20, eq_true c21, c25]; done)⟩)
                · skip
                  refine lv_iconst (v := 1) hx hb dX3_attribute_100 (by decide) ?_
                  refine lv_goto (tgt := 105) hx hb dX3_attribute_101 (by decide) ?_
                  refine mAst5 (ad := ad) hx hb hK hP hD hS (in400 (hv o b2).1) dX3_attribute_105 (fun H locs hP hD hS => ?_)
                  refine lv_goto (tgt := 149) hx hb dX3_attribute_106 (by decide) ?_
                  refine lv_iconst (v := 1) hx hb dX3_attribute_149 (by decide) ?_
                  refine W.widen (k := 0) (n := 0) (by omega) (by omega) ?_
                  exact weI (wf := fun u : MS => mW Y ad u) (mUp (mSetThr t 0) 5 o (vp_nar .boolean 1)) hx hb hr hlocks hP hD hS dX3_attribute_150 (⟨by first | (simp only [fAttr, b2, b6, c9, b11, c15, c20, c21, c25, decide_true, decide_false, Bool.not_true, Bool.not_false, Bool.and_true, Bool.true_and, Bool.and_false, Bool.false_and, Bool.or_true, Bool.true_or, Bool.or_false, Bool.false_or, Bool.and_self, Bool.or_self, if_true, if_false, ite_true, ite_false, Bool.false_eq_true, reduceIte, not_true_eq_false, not_false_eq_true, and_true, true_and, and_false, false_and, or_true, true_or, or_false, false_or, and_self, or_self, eq_self, decide_eq_true_eq, Bool.true_eq_false, reduceCtorEq, ne_eq]; done) | (simp [fAttr, b2, b6, c9, b11, c15, c20, c21, c25]; done) | (simp only [fAttr, b2, b6, c9, b11, eq_true c15, eq_true c20, eq_true c21, eq_true c25, decide_true, decide_false, Bool.not_true, Bool.not_false, Bool.and_true, Bool.true_and, Bool.and_false, Bool.false_and, Bool.or_true, Bool.true_or, Bool.or_false, Bool.false_or, Bool.and_self, Bool.or_self, if_true, if_false, ite_true, ite_false, Bool.false_eq_true, reduceIte, not_true_eq_false, not_false_eq_true, and_true, true_and, and_false, false_and, or_true, true_or, or_false, false_or, and_self, or_self, eq_self, decide_eq_true_eq, Bool.true_eq_false, reduceCtorEq, ne_eq]; done) | (simp [fAttr, b2, b6, c9, b11, eq_true c15, eq_true c20, eq_true c21, eq_true c25]; done), by first | (simp only [fAttr, b2, b6, c9, b11, c15, c20, c21, c25, decide_true, decide_false, Bool.not_true, Bool.not_false, Bool.and_true, Bool.true_and, Bool.and_false, Bool.false_and, Bool.or_true, Bool.true_or, Bool.or_false, Bool.false_or, Bool.and_self, Bool.or_self, if_true, if_false, ite_true, ite_false, Bool.false_eq_true, reduceIte, not_true_eq_false, not_false_eq_true, and_true, true_and, and_false, false_and, or_true, true_or, or_false, false_or, and_self, or_self, eq_self, decide_eq_true_eq, Bool.true_eq_false, reduceCtorEq, ne_eq]; done) | (simp [fAttr, b2, b6, c9, b11, c15, c20, c21, c25]; done) | (simp only [fAttr, b2, b6, c9, b11, eq_true c15, eq_true c20, eq_true c21, eq_true c25, decide_true, decide_false, Bool.not_true, Bool.not_false, Bool.and_true, Bool.true_and, Bool.and_false, Bool.false_and, Bool.or_true, Bool.true_or, Bool.or_false, Bool.false_or, Bool.and_self, Bool.or_self, if_true, if_false, ite_true, ite_false, Bool.false_eq_true, reduceIte, not_true_eq_false, not_false_eq_true, and_true, true_and, and_false, false_and, or_true, true_or, or_false, false_or, and_self, or_self, eq_self, decide_eq_true_eq, Bool.true_eq_false, reduceCtorEq, ne_eq]; done) | (simp [fAttr, b2, b6, c9, b11, eq_true c15, eq_true c20, eq_true c21, eq_true c25]; done)⟩)
            · skip
              refine lv_bipush (v := (-3)) hx hb dX3_attribute_83 (by decide) ?_
              refine W.widen (k := 0) (n := 0) (by omega) (by omega) ?_
              exact weI (wf := fun u : MS => mW Y ad u) (mSetThr t 0) hx hb hr hlocks hP hD hS dX3_attribute_85 (⟨by first | (simp only [fAttr, b2, b6, c9, b11, c15, c20, decide_true, decide_false, Bool.not_true, Bool.not_false, Bool.and_true, Bool.true_and, Bool.and_false, Bool.false_and, Bool.or_true, Bool.true_or, Bool.or_false, Bool.false_or, Bool.and_self, Bool.or_self, if_true, if_false, ite_true, ite_false, Bool.false_eq_true, reduceIte, not_true_eq_false, not_false_eq_true, and_true, true_and, and_false, false_and, or_true, true_or, or_false, false_or, and_self, or_self, eq_self, decide_eq_true_eq, Bool.true_eq_false, reduceCtorEq, ne_eq]; done) | (simp [fAttr, b2, b6, c9, b11, c15, c20]; done) | (simp only [fAttr, b2, b6, c9, b11, eq_true c15, c20, decide_true, decide_false, Bool.not_true, Bool.not_false, Bool.and_true, Bool.true_and, Bool.and_false, Bool.false_and, Bool.or_true, Bool.true_or, Bool.or_false, Bool.false_or, Bool.and_self, Bool.or_self, if_true, if_false, ite_true, ite_false, Bool.false_eq_true, reduceIte, not_true_eq_false, not_false_eq_true, and_true, true_and, and_false, false_and, or_true, true_or, or_false, false_or, and_self, or_self, eq_self, decide_eq_true_eq, Bool.true_eq_false, reduceCtorEq, ne_eq]; done) | (simp [fAttr, b2, b6, c9, b11, eq_true c15, c20]; done), by first | (simp only [fAttr, b2, b6, c9, b11, c15, c20, decide_true, decide_false, Bool.not_true, Bool.not_false, Bool.and_true, Bool.true_and, Bool.and_false, Bool.false_and, Bool.or_true, Bool.true_or, Bool.or_false, Bool.false_or, Bool.and_self, Bool.or_self, if_true, if_false, ite_true, ite_false, Bool.false_eq_true, reduceIte, not_true_eq_false, not_false_eq_true, and_true, true_and, and_false, false_and, or_true, true_or, or_false, false_or, and_self, or_self, eq_self, decide_eq_true_eq, Bool.true_eq_false, reduceCtorEq, ne_eq]; done) | (simp [fAttr, b2, b6, c9, b11, c15, c20]; done) | (simp only [fAttr, b2, b6, c9, b11, eq_true c15, c20, decide_true, decide_false, Bool.not_true, Bool.not_false, Bool.and_true, Bool.true_and, Bool.and_false, Bool.false_and, Bool.or_true, Bool.true_or, Bool.or_false, Bool.false_or, Bool.and_self, Bool.or_self, if_true, if_false, ite_true, ite_false, Bool.false_eq_true, reduceIte, not_true_eq_false, not_false_eq_true, and_true, true_and, and_false, false_and, or_true, true_or, or_false, false_or, and_self, or_self, eq_self, decide_eq_true_eq, Bool.true_eq_false, reduceCtorEq, ne_eq]; done) | (simp [fAttr, b2, b6, c9, b11, eq_true c15, c20]; done)⟩)
      · skip
        refine lv_iconst (v := 3) hx hb dX3_attribute_31 (by decide) ?_
        refine lv_goto (tgt := 36) hx hb dX3_attribute_32 (by decide) ?_
        refine scI (As := [.int v, .int 0, .int 3]) (rest := []) ⟨hx, hb, hml, hown, hts⟩ (c_X3_within l v 0 3) (va_cwS 3 hts gX3_attribute_X3_within rfl rfl rfl hdX3_within ⟨Nat.le_of_ble_eq_true rfl, Nat.le_of_ble_eq_true rfl⟩) rfl hl.1 rfl (Nat.le_of_ble_eq_true rfl) dX3_attribute_36 ⟨(Nat.zero_le _), (Nat.zero_le _)⟩ (fun r26 hr26 => ?_)
        replace hr26 : r26 = bI (qWithin v 0 3) := hr26
        cases b27 : qWithin v 0 3
        · replace hr26 : r26 = 0 := by rw [hr26, b27]; rfl
          subst hr26
          refine lv_if_ne (tgt := 45) hx hb dX3_attribute_39 (by decide) (fun c28 => absurd (by decide) c28) (fun _ => ?_)
          refine lv_bipush (v := (-2)) hx hb dX3_attribute_42 (by decide) ?_
          refine W.widen (k := 0) (n := 0) (by omega) (by omega) ?_
          exact weI (wf := fun u : MS => mW Y ad u) (mSetThr t 0) hx hb hr hlocks hP hD hS dX3_attribute_44 (⟨by first | (simp only [fAttr, b2, b6, c9, b27, decide_true, decide_false, Bool.not_true, Bool.not_false, Bool.and_true, Bool.true_and, Bool.and_false, Bool.false_and, Bool.or_true, Bool.true_or, Bool.or_false, Bool.false_or, Bool.and_self, Bool.or_self, if_true, if_false, ite_true, ite_false, Bool.false_eq_true, reduceIte, not_true_eq_false, not_false_eq_true, and_true, true_and, and_false, false_and, or_true, true_or, or_false, false_or, and_self, or_self, eq_self, decide_eq_true_eq, Bool.true_eq_false, reduceCtorEq, ne_eq]; done) | (simp [fAttr, b2, b6, c9, b27]; done) | (simp only [fAttr, b2, b6, eq_true c9, b27, decide_true, decide_false, Bool.not_true, Bool.not_false, Bool.and_true, Bool.true_and, Bool.and_false, Bool.false_and, Bool.or_true, Bool.true_or, Bool.or_false, Bool.false_or, Bool.and_self, Bool.or_self, if_true, if_false, ite_true, ite_false, Bool.false_eq_true, reduceIte, not_true_eq_false, not_false_eq_true, and_true, true_and, and_false, false_and, or_true, true_or, or_false, false_or, and_self, or_self, eq_self, decide_eq_true_eq, Bool.true_eq_false, reduceCtorEq, ne_eq]; done) | (simp [fAttr, b2, b6, eq_true c9, b27]; done), by first | (simp only [fAttr, b2, b6, c9, b27, decide_true, decide_false, Bool.not_true, Bool.not_false, Bool.and_true, Bool.true_and, Bool.and_false, Bool.false_and, Bool.or_true, Bool.true_or, Bool.or_false, Bool.false_or, Bool.and_self, Bool.or_self, if_true, if_false, ite_true, ite_false, Bool.false_eq_true, reduceIte, not_true_eq_false, not_false_eq_true, and_true, true_and, and_false, false_and, or_true, true_or, or_false, false_or, and_self, or_self, eq_self, decide_eq_true_eq, Bool.true_eq_false, reduceCtorEq, ne_eq]; done) | (simp [fAttr, b2, b6, c9, b27]; done) | (simp only [fAttr, b2, b6, eq_true c9, b27, decide_true, decide_false, Bool.not_true, Bool.not_false, Bool.and_true, Bool.true_and, Bool.and_false, Bool.false_and, Bool.or_true, Bool.true_or, Bool.or_false, Bool.false_or, Bool.and_self, Bool.or_self, if_true, if_false, ite_true, ite_false, Bool.false_eq_true, reduceIte, not_true_eq_false, not_false_eq_true, and_true, true_and, and_false, false_and, or_true, true_or, or_false, false_or, and_self, or_self, eq_self, decide_eq_true_eq, Bool.true_eq_false, reduceCtorEq, ne_eq]; done) | (simp [fAttr, b2, b6, eq_true c9, b27]; done)⟩)
        · replace hr26 : r26 = 1 := by rw [hr26, b27]; rfl
          subst hr26
          refine lv_if_ne (tgt := 45) hx hb dX3_attribute_39 (by decide) (fun _ => ?_) (fun c29 => absurd c29 (by decide))
          refine lv_iload_n hx hb dX3_attribute_45 rfl (lv_at hl 2 rfl) ?_
          refine lv_iconst (v := 1) hx hb dX3_attribute_46 (by decide) ?_
          refine lv_icmp_ne (tgt := 67) hx hb dX3_attribute_47 (by decide) (fun c30 => absurd c9 c30) (fun _ => ?_)
          refine lv_aload_n hx hb dX3_attribute_50 rfl (lv_at hl 0 rfl) ?_
          refine lv_iload_n hx hb dX3_attribute_51 rfl (lv_at hl 1 rfl) ?_
          refine rcI (As := [.int o]) (rest := []) ⟨hx, hb, hml, hown, hts⟩ (c_X3_hasAccess l D Y ad (mSetThr t 0) o (hv o b2).1) (cwV 1 hts gX3_attribute_X3_hasAccess rfl rfl rfl hdX3_hasAccess ⟨Nat.le_of_ble_eq_true rfl, Nat.le_of_ble_eq_true rfl⟩) hP hK 0 4 rfl rfl rfl hl.1 rfl (Nat.le_of_ble_eq_true rfl) dX3_attribute_52 ⟨(Nat.zero_le _), (Nat.zero_le _)⟩ (fun r31 hr31 => ?_)
          replace hr31 : r31 = bI (qHasAcc t o) := hr31
          cases b32 : qHasAcc t o
          · replace hr31 : r31 = 0 := by rw [hr31, b32]; rfl
            subst hr31
            refine lv_if_eq (tgt := 83) hx hb dX3_attribute_55 (by decide) (fun _ => ?_) (fun c33 => absurd (by decide) c33)
            refine lv_bipush (v := (-3)) hx hb dX3_attribute_83 (by decide) ?_
            refine W.widen (k := 0) (n := 0) (by omega) (by omega) ?_
            exact weI (wf := fun u : MS => mW Y ad u) (mSetThr t 0) hx hb hr hlocks hP hD hS dX3_attribute_85 (⟨by first | (simp only [fAttr, b2, b6, c9, b27, b32, decide_true, decide_false, Bool.not_true, Bool.not_false, Bool.and_true, Bool.true_and, Bool.and_false, Bool.false_and, Bool.or_true, Bool.true_or, Bool.or_false, Bool.false_or, Bool.and_self, Bool.or_self, if_true, if_false, ite_true, ite_false, Bool.false_eq_true, reduceIte, not_true_eq_false, not_false_eq_true, and_true, true_and, and_false, false_and, or_true, true_or, or_false, false_or, and_self, or_self, eq_self, decide_eq_true_eq, Bool.true_eq_false, reduceCtorEq, ne_eq]; done) | (simp [fAttr, b2, b6, c9, b27, b32]; done) | (simp only [fAttr, b2, b6, eq_true c9, b27, b32, decide_true, decide_false, Bool.not_true, Bool.not_false, Bool.and_true, Bool.true_and, Bool.and_false, Bool.false_and, Bool.or_true, Bool.true_or, Bool.or_false, Bool.false_or, Bool.and_self, Bool.or_self, if_true, if_false, ite_true, ite_false, Bool.false_eq_true, reduceIte, not_true_eq_false, not_false_eq_true, and_true, true_and, and_false, false_and, or_true, true_or, or_false, false_or, and_self, or_self, eq_self, decide_eq_true_eq, Bool.true_eq_false, reduceCtorEq, ne_eq]; done) | (simp [fAttr, b2, b6, eq_true c9, b27, b32]; done), by first | (simp only [fAttr, b2, b6, c9, b27, b32, decide_true, decide_false, Bool.not_true, Bool.not_false, Bool.and_true, Bool.true_and, Bool.and_false, Bool.false_and, Bool.or_true, Bool.true_or, Bool.or_false, Bool.false_or, Bool.and_self, Bool.or_self, if_true, if_false, ite_true, ite_false, Bool.false_eq_true, reduceIte, not_true_eq_false, not_false_eq_true, and_true, true_and, and_false, false_and, or_true, true_or, or_false, false_or, and_self, or_self, eq_self, decide_eq_true_eq, Bool.true_eq_false, reduceCtorEq, ne_eq]; done) | (simp [fAttr, b2, b6, c9, b27, b32]; done) | (simp only [fAttr, b2, b6, eq_true c9, b27, b32, decide_true, decide_false, Bool.not_true, Bool.not_false, Bool.and_true, Bool.true_and, Bool.and_false, Bool.false_and, Bool.or_true, Bool.true_or, Bool.or_false, Bool.false_or, Bool.and_self, Bool.or_self, if_true, if_false, ite_true, ite_false, Bool.false_eq_true, reduceIte, not_true_eq_false, not_false_eq_true, and_true, true_and, and_false, false_and, or_true, true_or, or_false, false_or, and_self, or_self, eq_self, decide_eq_true_eq, Bool.true_eq_false, reduceCtorEq, ne_eq]; done) | (simp [fAttr, b2, b6, eq_true c9, b27, b32]; done)⟩)
          · replace hr31 : r31 = 1 := by rw [hr31, b32]; rfl
            subst hr31
            refine lv_if_eq (tgt := 83) hx hb dX3_attribute_55 (by decide) (fun c34 => absurd c34 (by decide)) (fun _ => ?_)
            refine lv_iload_n hx hb dX3_attribute_58 rfl (lv_at hl 3 rfl) ?_
            refine lv_aload_n hx hb dX3_attribute_59 rfl (lv_at hl 0 rfl) ?_
            refine lv_iload_n hx hb dX3_attribute_60 rfl (lv_at hl 1 rfl) ?_
            refine rcI (As := [.int o]) (rest := [.int v]) ⟨hx, hb, hml, hown, hts⟩ (c_X3_accessOf l D Y ad (mSetThr t 0) o (hv o b2).1 (hv o b2).2.1) (cwV 1 hts gX3_attribute_X3_accessOf rfl rfl rfl hdX3_accessOf ⟨Nat.le_of_ble_eq_true rfl, Nat.le_of_ble_eq_true rfl⟩) hP hK 0 4 rfl rfl rfl hl.1 rfl (Nat.le_of_ble_eq_true rfl) dX3_attribute_61 ⟨(Nat.zero_le _), (Nat.zero_le _)⟩ (fun r35 hr35 => ?_)
            obtain rfl : r35 = qAcc t o := hr35
            refine lv_icmp_gt (tgt := 83) hx hb dX3_attribute_64 (by decide) (fun c36 => ?_) (fun c36 => ?_)
            · skip
              refine lv_bipush (v := (-3)) hx hb dX3_attribute_83 (by decide) ?_
              refine W.widen (k := 0) (n := 0) (by omega) (by omega) ?_
              exact weI (wf := fun u : MS => mW Y ad u) (mSetThr t 0) hx hb hr hlocks hP hD hS dX3_attribute_85 (⟨by first | (simp only [fAttr, b2, b6, c9, b27, b32, c36, decide_true, decide_false, Bool.not_true, Bool.not_false, Bool.and_true, Bool.true_and, Bool.and_false, Bool.false_and, Bool.or_true, Bool.true_or, Bool.or_false, Bool.false_or, Bool.and_self, Bool.or_self, if_true, if_false, ite_true, ite_false, Bool.false_eq_true, reduceIte, not_true_eq_false, not_false_eq_true, and_true, true_and, and_false, false_and, or_true, true_or, or_false, false_or, and_self, or_self, eq_self, decide_eq_true_eq, Bool.true_eq_false, reduceCtorEq, ne_eq]; done) | (simp [fAttr, b2, b6, c9, b27, b32, c36, Int32.not_le.mpr c36]; done) | (simp only [fAttr, b2, b6, eq_true c9, b27, b32, c36, decide_true, decide_false, Bool.not_true, Bool.not_false, Bool.and_true, Bool.true_and, Bool.and_false, Bool.false_and, Bool.or_true, Bool.true_or, Bool.or_false, Bool.false_or, Bool.and_self, Bool.or_self, if_true, if_false, ite_true, ite_false, Bool.false_eq_true, reduceIte, not_true_eq_false, not_false_eq_true, and_true, true_and, and_false, false_and, or_true, true_or, or_false, false_or, and_self, or_self, eq_self, decide_eq_true_eq, Bool.true_eq_false, reduceCtorEq, ne_eq]; done) | (simp [fAttr, b2, b6, eq_true c9, b27, b32, c36, Int32.not_le.mpr c36]; done), by first | (simp only [fAttr, b2, b6, c9, b27, b32, c36, decide_true, decide_false, Bool.not_true, Bool.not_false, Bool.and_true, Bool.true_and, Bool.and_false, Bool.false_and, Bool.or_true, Bool.true_or, Bool.or_false, Bool.false_or, Bool.and_self, Bool.or_self, if_true, if_false, ite_true, ite_false, Bool.false_eq_true, reduceIte, not_true_eq_false, not_false_eq_true, and_true, true_and, and_false, false_and, or_true, true_or, or_false, false_or, and_self, or_self, eq_self, decide_eq_true_eq, Bool.true_eq_false, reduceCtorEq, ne_eq]; done) | (simp [fAttr, b2, b6, c9, b27, b32, c36, Int32.not_le.mpr c36]; done) | (simp only [fAttr, b2, b6, eq_true c9, b27, b32, c36, decide_true, decide_false, Bool.not_true, Bool.not_false, Bool.and_true, Bool.true_and, Bool.and_false, Bool.false_and, Bool.or_true, Bool.true_or, Bool.or_false, Bool.false_or, Bool.and_self, Bool.or_self, if_true, if_false, ite_true, ite_false, Bool.false_eq_true, reduceIte, not_true_eq_false, not_false_eq_true, and_true, true_and, and_false, false_and, or_true, true_or, or_false, false_or, and_self, or_self, eq_self, decide_eq_true_eq, Bool.true_eq_false, reduceCtorEq, ne_eq]; done) | (simp [fAttr, b2, b6, eq_true c9, b27, b32, c36, Int32.not_le.mpr c36]; done)⟩)
            · skip
              refine lv_iload_n hx hb dX3_attribute_67 rfl (lv_at hl 2 rfl) ?_
              refine lv_iconst (v := 2) hx hb dX3_attribute_68 (by decide) ?_
              refine lv_icmp_ne (tgt := 86) hx hb dX3_attribute_69 (by decide) (fun c37 => ?_) (fun c37 => ?_)
              · skip
                refine lv_iload_n hx hb dX3_attribute_86 rfl (lv_at hl 2 rfl) ?_
                refine lv_if_ne (tgt := 109) hx hb dX3_attribute_87 (by decide) (fun c38 => ?_) (fun c38 => ?_)
                · skip
                  refine lv_iload_n hx hb dX3_attribute_109 rfl (lv_at hl 2 rfl) ?_
                  refine lv_iconst (v := 1) hx hb dX3_attribute_110 (by decide) ?_
                  refine lv_icmp_ne (tgt := 128) hx hb dX3_attribute_111 (by decide) (fun c39 => absurd c9 c39) (fun _ => ?_)
                  refine lv_aload_n hx hb dX3_attribute_114 rfl (lv_at hl 0 rfl) ?_
                  refine va_get (D := D) (ci := 4) (v := .ref (mH ad 6)) (C := RX3) (T := TX3) (N := 19) hx hb hts iwX3 hown hK hP 0 rfl rfl 10 (by decide) (hts (.fieldLink RX3 37 "ObjectRowsModel" "access" "[I") (by decide +kernel)) (fun _ h9 => h9) rfl dX3_attribute_115 ?_
                  refine lv_aload_n hx hb dX3_attribute_118 rfl (lv_at hl 0 rfl) ?_
                  refine lv_iload_n hx hb dX3_attribute_119 rfl (lv_at hl 1 rfl) ?_
                  refine rcI (As := [.int o]) (rest := [.ref (mH ad 6)]) ⟨hx, hb, hml, hown, hts⟩ (c_X3_holder l D Y ad (mSetThr t 0) o (hv o b2).1) (cwV 1 hts gX3_attribute_X3_holder rfl rfl rfl hdX3_holder ⟨Nat.le_of_ble_eq_true rfl, Nat.le_of_ble_eq_true rfl⟩) hP hK 0 4 rfl rfl rfl hl.1 rfl (Nat.le_of_ble_eq_true rfl) dX3_attribute_120 ⟨(Nat.zero_le _), (Nat.zero_le _)⟩ (fun r40 hr40 => ?_)
                  obtain rfl : r40 = qHolder t o := hr40
                  refine lv_iload_n hx hb dX3_attribute_123 rfl (lv_at hl 3 rfl) ?_
                  refine mAst6 (ad := ad) hx hb hK hP hD hS (hv o b2).2.1 dX3_attribute_124 (fun H locs hP hD hS => ?_)
                  refine lv_goto (tgt := 149) hx hb dX3_attribute_125 (by decide) ?_
                  refine lv_iconst (v := 1) hx hb dX3_attribute_149 (by decide) ?_
                  refine W.widen (k := 0) (n := 0) (by omega) (by omega) ?_
                  exact weI (wf := fun u : MS => mW Y ad u) (mUp (mSetThr t 0) 6 (qHolder t o) v) hx hb hr hlocks hP hD hS dX3_attribute_150 (⟨by first | (simp only [fAttr, b2, b6, c9, b27, b32, c36, c37, c38, decide_true, decide_false, Bool.not_true, Bool.not_false, Bool.and_true, Bool.true_and, Bool.and_false, Bool.false_and, Bool.or_true, Bool.true_or, Bool.or_false, Bool.false_or, Bool.and_self, Bool.or_self, if_true, if_false, ite_true, ite_false, Bool.false_eq_true, reduceIte, not_true_eq_false, not_false_eq_true, and_true, true_and, and_false, false_and, or_true, true_or, or_false, false_or, and_self, or_self, eq_self, decide_eq_true_eq, Bool.true_eq_false, reduceCtorEq, ne_eq]; done) | (simp [fAttr, b2, b6, c9, b27, b32, c36, c37, c38, Int32.not_lt.mp c36]; done) | (simp only [fAttr, b2, b6, eq_true c9, b27, b32, c36, c37, c38, decide_true, decide_false, Bool.not_true, Bool.not_false, Bool.and_true, Bool.true_and, Bool.and_false, Bool.false_and, Bool.or_true, Bool.true_or, Bool.or_false, Bool.false_or, Bool.and_self, Bool.or_self, if_true, if_false, ite_true, ite_false, Bool.false_eq_true, reduceIte, not_true_eq_false, not_false_eq_true, and_true, true_and, and_false, false_and, or_true, true_or, or_false, false_or, and_self, or_self, eq_self, decide_eq_true_eq, Bool.true_eq_false, reduceCtorEq, ne_eq]; done) | (simp [fAttr, b2, b6, eq_true c9, b27, b32, c36, c37, c38, Int32.not_lt.mp c36]; done), by first | (simp only [fAttr, b2, b6, c9, b27, b32, c36, c37, c38, decide_true, decide_false, Bool.not_true, Bool.not_false, Bool.and_true, Bool.true_and, Bool.and_false, Bool.false_and, Bool.or_true, Bool.true_or, Bool.or_false, Bool.false_or, Bool.and_self, Bool.or_self, if_true, if_false, ite_true, ite_false, Bool.false_eq_true, reduceIte, not_true_eq_false, not_false_eq_true, and_true, true_and, and_false, false_and, or_true, true_or, or_false, false_or, and_self, or_self, eq_self, decide_eq_true_eq, Bool.true_eq_false, reduceCtorEq, ne_eq]; done) | (simp [fAttr, b2, b6, c9, b27, b32, c36, c37, c38, Int32.not_lt.mp c36]; done) | (simp only [fAttr, b2, b6, eq_true c9, b27, b32, c36, c37, c38, decide_true, decide_false, Bool.not_true, Bool.not_false, Bool.and_true, Bool.true_and, Bool.and_false, Bool.false_and, Bool.or_true, Bool.true_or, Bool.or_false, Bool.false_or, Bool.and_self, Bool.or_self, if_true, if_false, ite_true, ite_false, Bool.false_eq_true, reduceIte, not_true_eq_false, not_false_eq_true, and_true, true_and, and_false, false_and, or_true, true_or, or_false, false_or, and_self, or_self, eq_self, decide_eq_true_eq, Bool.true_eq_false, reduceCtorEq, ne_eq]; done) | (simp [fAttr, b2, b6, eq_true c9, b27, b32, c36, c37, c38, Int32.not_lt.mp c36]; done)⟩)
                · skip
                  refine lv_aload_n hx hb dX3_attribute_90 rfl (lv_at hl 0 rfl) ?_
                  refine va_get (D := D) (ci := 4) (v := .ref (mH ad 5)) (C := RX3) (T := TX3) (N := 19) hx hb hts iwX3 hown hK hP 0 rfl rfl 9 (by decide) (hts (.fieldLink RX3 33 "ObjectRowsModel" "executable" "[Z") (by decide +kernel)) (fun _ h9 => h9) rfl dX3_attribute_91 ?_
                  refine lv_iload_n hx hb dX3_attribute_94 rfl (lv_at hl 1 rfl) ?_
                  refine lv_iload_n hx hb dX3_attribute_95 rfl (lv_at hl 3 rfl) ?_
                  refine lv_iconst (v := 1) hx hb dX3_attribute_96 (by decide) ?_
                  refine lv_icmp_ne (tgt := 104) hx hb dX3_attribute_97 (by decide) (fun c41 => ?_) (fun c41 => ?_)
                  · skip
                    refine lv_iconst (v := 0) hx hb dX3_attribute_104 (by decide) ?_
                    refine mAst5 (ad := ad) hx hb hK hP hD hS (in400 (hv o b2).1) dX3_attribute_105 (fun H locs hP hD hS => ?_)
                    refine lv_goto (tgt := 149) hx hb dX3_attribute_106 (by decide) ?_
                    refine lv_iconst (v := 1) hx hb dX3_attribute_149 (by decide) ?_
                    refine W.widen (k := 0) (n := 0) (by omega) (by omega) ?_
                    exact weI (wf := fun u : MS => mW Y ad u) (mUp (mSetThr t 0) 5 o (vp_nar .boolean 0)) hx hb hr hlocks hP hD hS dX3_attribute_150 (⟨by first | (simp only [fAttr, b2, b6, c9, b27, b32, c36, c37, c38, c41, decide_true, decide_false, Bool.not_true, Bool.not_false, Bool.and_true, Bool.true_and, Bool.and_false, Bool.false_and, Bool.or_true, Bool.true_or, Bool.or_false, Bool.false_or, Bool.and_self, Bool.or_self, if_true, if_false, ite_true, ite_false, Bool.false_eq_true, reduceIte, not_true_eq_false, not_false_eq_true, and_true, true_and, and_false, false_and, or_true, true_or, or_false, false_or, and_self, or_self, eq_self, decide_eq_true_eq, Bool.true_eq_false, reduceCtorEq, ne_eq]; done) | (simp [fAttr, b2, b6, c9, b27, b32, c36, c37, c38, c41, Int32.not_lt.mp c36]; done) | (simp only [fAttr, b2, b6, eq_true c9, b27, b32, c36, c37, eq_true c38, c41, decide_true, decide_false, Bool.not_true, Bool.not_false, Bool.and_true, Bool.true_and, Bool.and_false, Bool.false_and, Bool.or_true, Bool.true_or, Bool.or_false, Bool.false_or, Bool.and_self, Bool.or_self, if_true, if_false, ite_true, ite_false, Bool.false_eq_true, reduceIte, not_true_eq_false, not_false_eq_true, and_true, true_and, and_false, false_and, or_true, true_or, or_false, false_or, and_self, or_self, eq_self, decide_eq_true_eq, Bool.true_eq_false, reduceCtorEq, ne_eq]; done) | (simp [fAttr, b2, b6, eq_true c9, b27, b32, c36, c37, eq_true c38, c41, Int32.not_lt.mp c36]; done), by first | (simp only [fAttr, b2, b6, c9, b27, b32, c36, c37, c38, c41, decide_true, decide_false, Bool.not_true, Bool.not_false, Bool.and_true, Bool.true_and, Bool.and_false, Bool.false_and, Bool.or_true, Bool.true_or, Bool.or_false, Bool.false_or, Bool.and_self, Bool.or_self, if_true, if_false, ite_true, ite_false, Bool.false_eq_true, reduceIte, not_true_eq_false, not_false_eq_true, and_true, true_and, and_false, false_and, or_true, true_or, or_false, false_or, and_self, or_self, eq_self, decide_eq_true_eq, Bool.true_eq_false, reduceCtorEq, ne_eq]; done) | (simp [fAttr, b2, b6, c9, b27, b32, c36, c37, c38, c41, Int32.not_lt.mp c36]; done) | (simp only [fAttr, b2, b6, eq_true c9, b27, b32, c36, c37, eq_true c38, c41, decide_true, decide_false, Bool.not_true, Bool.not_false, Bool.and_true, Bool.true_and, Bool.and_false, Bool.false_and, Bool.or_true, Bool.true_or, Bool.or_false, Bool.false_or, Bool.and_self, Bool.or_self, if_true, if_false, ite_true, ite_false, Bool.false_eq_true, reduceIte, not_true_eq_false, not_false_eq_true, and_true, true_and, and_false, false_and, or_true, true_or, or_false, false_or, and_self, or_self, eq_self, decide_eq_true_eq, Bool.true_eq_false, reduceCtorEq, ne_eq]; done) | (simp [fAttr, b2, b6, eq_true c9, b27, b32, c36, c37, eq_true c38, c41, Int32.not_lt.mp c36]; done)⟩)
                  · skip
                    refine lv_iconst (v := 1) hx hb dX3_attribute_100 (by decide) ?_
                    refine lv_goto (tgt := 105) hx hb dX3_attribute_101 (by decide) ?_
                    refine mAst5 (ad := ad) hx hb hK hP hD hS (in400 (hv o b2).1) dX3_attribute_105 (fun H locs hP hD hS => ?_)
                    refine lv_goto (tgt := 149) hx hb dX3_attribute_106 (by decide) ?_
                    refine lv_iconst (v := 1) hx hb dX3_attribute_149 (by decide) ?_
                    refine W.widen (k := 0) (n := 0) (by omega) (by omega) ?_
                    exact weI (wf := fun u : MS => mW Y ad u) (mUp (mSetThr t 0) 5 o (vp_nar .boolean 1)) hx hb hr hlocks hP hD hS dX3_attribute_150 (⟨by first | (simp only [fAttr, b2, b6, c9, b27, b32, c36, c37, c38, c41, decide_true, decide_false, Bool.not_true, Bool.not_false, Bool.and_true, Bool.true_and, Bool.and_false, Bool.false_and, Bool.or_true, Bool.true_or, Bool.or_false, Bool.false_or, Bool.and_self, Bool.or_self, if_true, if_false, ite_true, ite_false, Bool.false_eq_true, reduceIte, not_true_eq_false, not_false_eq_true, and_true, true_and, and_false, false_and, or_true, true_or, or_false, false_or, and_self, or_self, eq_self, decide_eq_true_eq, Bool.true_eq_false, reduceCtorEq, ne_eq]; done) | (simp [fAttr, b2, b6, c9, b27, b32, c36, c37, c38, c41, Int32.not_lt.mp c36]; done) | (simp only [fAttr, b2, b6, eq_true c9, b27, b32, c36, c37, eq_true c38, eq_true c41, decide_true, decide_false, Bool.not_true, Bool.not_false, Bool.and_true, Bool.true_and, Bool.and_false, Bool.false_and, Bool.or_true, Bool.true_or, Bool.or_false, Bool.false_or, Bool.and_self, Bool.or_self, if_true, if_false, ite_true, ite_false, Bool.false_eq_true, reduceIte, not_true_eq_false, not_false_eq_true, and_true, true_and, and_false, false_and, or_true, true_or, or_false, false_or, and_self, or_self, eq_self, decide_eq_true_eq, Bool.true_eq_false, reduceCtorEq, ne_eq]; done) | (simp [fAttr, b2, b6, eq_true c9, b27, b32, c36, c37, eq_true c38, eq_true c41, Int32.not_lt.mp c36]; done), by first | (simp only [fAttr, b2, b6, c9, b27, b32, c36, c37, c38, c41, decide_true, decide_false, Bool.not_true, Bool.not_false, Bool.and_true, Bool.true_and, Bool.and_false, Bool.false_and, Bool.or_true, Bool.true_or, Bool.or_false, Bool.false_or, Bool.and_self, Bool.or_self, if_true, if_false, ite_true, ite_false, Bool.false_eq_true, reduceIte, not_true_eq_false, not_false_eq_true, and_true, true_and, and_false, false_and, or_true, true_or, or_false, false_or, and_self, or_self, eq_self, decide_eq_true_eq, Bool.true_eq_false, reduceCtorEq, ne_eq]; done) | (simp [fAttr, b2, b6, c9, b27, b32, c36, c37, c38, c41, Int32.not_lt.mp c36]; done) | (simp only [fAttr, b2, b6, eq_true c9, b27, b32, c36, c37, eq_true c38, eq_true c41, decide_true, decide_false, Bool.not_true, Bool.not_false, Bool.and_true, Bool.true_and, Bool.and_false, Bool.false_and, Bool.or_true, Bool.true_or, Bool.or_false, Bool.false_or, Bool.and_self, Bool.or_self, if_true, if_false, ite_true, ite_false, Bool.false_eq_true, reduceIte, not_true_eq_false, not_false_eq_true, and_true, true_and, and_false, false_and, or_true, true_or, or_false, false_or, and_self, or_self, eq_self, decide_eq_true_eq, Bool.true_eq_false, reduceCtorEq, ne_eq]; done) | (simp [fAttr, b2, b6, eq_true c9, b27, b32, c36, c37, eq_true c38, eq_true c41, Int32.not_lt.mp c36]; done)⟩)
              · skip
                refine lv_aload_n hx hb dX3_attribute_72 rfl (lv_at hl 0 rfl) ?_
                refine va_get (D := D) (ci := 4) (v := .ref (mH ad 0)) (C := RX3) (T := TX3) (N := 19) hx hb hts iwX3 hown hK hP 0 rfl rfl 4 (by decide) (hts (.fieldLink RX3 16 "ObjectRowsModel" "kinds" "[I") (by decide +kernel)) (fun _ h9 => h9) rfl dX3_attribute_73 ?_
                refine lv_iload_n hx hb dX3_attribute_76 rfl (lv_at hl 1 rfl) ?_
                refine va_iald hx hb hK hP 1 0 rfl rfl (hv o b2).1 dX3_attribute_77 ?_
                refine lv_topi (fun y42 ey42 => ?_)
                obtain rfl : y42 = mK t o := ey42
                refine lv_bipush (v := 7) hx hb dX3_attribute_78 (by decide) ?_
                refine lv_icmp_eq (tgt := 86) hx hb dX3_attribute_80 (by decide) (fun c43 => ?_) (fun c43 => ?_)
                · skip
                  refine lv_iload_n hx hb dX3_attribute_86 rfl (lv_at hl 2 rfl) ?_
                  refine lv_if_ne (tgt := 109) hx hb dX3_attribute_87 (by decide) (fun c44 => ?_) (fun c44 => ?_)
                  · skip
                    refine lv_iload_n hx hb dX3_attribute_109 rfl (lv_at hl 2 rfl) ?_
                    refine lv_iconst (v := 1) hx hb dX3_attribute_110 (by decide) ?_
                    refine lv_icmp_ne (tgt := 128) hx hb dX3_attribute_111 (by decide) (fun c45 => absurd c9 c45) (fun _ => ?_)
                    refine lv_aload_n hx hb dX3_attribute_114 rfl (lv_at hl 0 rfl) ?_
                    refine va_get (D := D) (ci := 4) (v := .ref (mH ad 6)) (C := RX3) (T := TX3) (N := 19) hx hb hts iwX3 hown hK hP 0 rfl rfl 10 (by decide) (hts (.fieldLink RX3 37 "ObjectRowsModel" "access" "[I") (by decide +kernel)) (fun _ h9 => h9) rfl dX3_attribute_115 ?_
                    refine lv_aload_n hx hb dX3_attribute_118 rfl (lv_at hl 0 rfl) ?_
                    refine lv_iload_n hx hb dX3_attribute_119 rfl (lv_at hl 1 rfl) ?_
                    refine rcI (As := [.int o]) (rest := [.ref (mH ad 6)]) ⟨hx, hb, hml, hown, hts⟩ (c_X3_holder l D Y ad (mSetThr t 0) o (hv o b2).1) (cwV 1 hts gX3_attribute_X3_holder rfl rfl rfl hdX3_holder ⟨Nat.le_of_ble_eq_true rfl, Nat.le_of_ble_eq_true rfl⟩) hP hK 0 4 rfl rfl rfl hl.1 rfl (Nat.le_of_ble_eq_true rfl) dX3_attribute_120 ⟨(Nat.zero_le _), (Nat.zero_le _)⟩ (fun r46 hr46 => ?_)
                    obtain rfl : r46 = qHolder t o := hr46
                    refine lv_iload_n hx hb dX3_attribute_123 rfl (lv_at hl 3 rfl) ?_
                    refine mAst6 (ad := ad) hx hb hK hP hD hS (hv o b2).2.1 dX3_attribute_124 (fun H locs hP hD hS => ?_)
                    refine lv_goto (tgt := 149) hx hb dX3_attribute_125 (by decide) ?_
                    refine lv_iconst (v := 1) hx hb dX3_attribute_149 (by decide) ?_
                    refine W.widen (k := 0) (n := 0) (by omega) (by omega) ?_
                    exact weI (wf := fun u : MS => mW Y ad u) (mUp (mSetThr t 0) 6 (qHolder t o) v) hx hb hr hlocks hP hD hS dX3_attribute_150 (⟨by first | (simp only [fAttr, b2, b6, c9, b27, b32, c36, c37, c43, c44, decide_true, decide_false, Bool.not_true, Bool.not_false, Bool.and_true, Bool.true_and, Bool.and_false, Bool.false_and, Bool.or_true, Bool.true_or, Bool.or_false, Bool.false_or, Bool.and_self, Bool.or_self, if_true, if_false, ite_true, ite_false, Bool.false_eq_true, reduceIte, not_true_eq_false, not_false_eq_true, and_true, true_and, and_false, false_and, or_true, true_or, or_false, false_or, and_self, or_self, eq_self, decide_eq_true_eq, Bool.true_eq_false, reduceCtorEq, ne_eq]; done) | (simp [fAttr, b2, b6, c9, b27, b32, c36, c37, c43, c44, Int32.not_lt.mp c36]; done) | (simp only [fAttr, b2, b6, eq_true c9, b27, b32, c36, eq_true c37, eq_true c43, c44, decide_true, decide_false, Bool.not_true, Bool.not_false, Bool.and_true, Bool.true_and, Bool.and_false, Bool.false_and, Bool.or_true, Bool.true_or, Bool.or_false, Bool.false_or, Bool.and_self, Bool.or_self, if_true, if_false, ite_true, ite_false, Bool.false_eq_true, reduceIte, not_true_eq_false, not_false_eq_true, and_true, true_and, and_false, false_and, or_true, true_or, or_false, false_or, and_self, or_self, eq_self, decide_eq_true_eq, Bool.true_eq_false, reduceCtorEq, ne_eq]; done) | (simp [fAttr, b2, b6, eq_true c9, b27, b32, c36, eq_true c37, eq_true c43, c44, Int32.not_lt.mp c36]; done), by first | (simp only [fAttr, b2, b6, c9, b27, b32, c36, c37, c43, c44, decide_true, decide_false, Bool.not_true, Bool.not_false, Bool.and_true, Bool.true_and, Bool.and_false, Bool.false_and, Bool.or_true, Bool.true_or, Bool.or_false, Bool.false_or, Bool.and_self, Bool.or_self, if_true, if_false, ite_true, ite_false, Bool.false_eq_true, reduceIte, not_true_eq_false, not_false_eq_true, and_true, true_and, and_false, false_and, or_true, true_or, or_false, false_or, and_self, or_self, eq_self, decide_eq_true_eq, Bool.true_eq_false, reduceCtorEq, ne_eq]; done) | (simp [fAttr, b2, b6, c9, b27, b32, c36, c37, c43, c44, Int32.not_lt.mp c36]; done) | (simp only [fAttr, b2, b6, eq_true c9, b27, b32, c36, eq_true c37, eq_true c43, c44, decide_true, decide_false, Bool.not_true, Bool.not_false, Bool.and_true, Bool.true_and, Bool.and_false, Bool.false_and, Bool.or_true, Bool.true_or, Bool.or_false, Bool.false_or, Bool.and_self, Bool.or_self, if_true, if_false, ite_true, ite_false, Bool.false_eq_true, reduceIte, not_true_eq_false, not_false_eq_true, and_true, true_and, and_false, false_and, or_true, true_or, or_false, false_or, and_self, or_self, eq_self, decide_eq_true_eq, Bool.true_eq_false, reduceCtorEq, ne_eq]; done) | (simp [fAttr, b2, b6, eq_true c9, b27, b32, c36, eq_true c37, eq_true c43, c44, Int32.not_lt.mp c36]; done)⟩)
                  · skip
                    refine lv_aload_n hx hb dX3_attribute_90 rfl (lv_at hl 0 rfl) ?_
                    refine va_get (D := D) (ci := 4) (v := .ref (mH ad 5)) (C := RX3) (T := TX3) (N := 19) hx hb hts iwX3 hown hK hP 0 rfl rfl 9 (by decide) (hts (.fieldLink RX3 33 "ObjectRowsModel" "executable" "[Z") (by decide +kernel)) (fun _ h9 => h9) rfl dX3_attribute_91 ?_
                    refine lv_iload_n hx hb dX3_attribute_94 rfl (lv_at hl 1 rfl) ?_
                    refine lv_iload_n hx hb dX3_attribute_95 rfl (lv_at hl 3 rfl) ?_
                    refine lv_iconst (v := 1) hx hb dX3_attribute_96 (by decide) ?_
                    refine lv_icmp_ne (tgt := 104) hx hb dX3_attribute_97 (by decide) (fun c47 => ?_) (fun c47 => ?_)
                    · skip
                      refine lv_iconst (v := 0) hx hb dX3_attribute_104 (by decide) ?_
                      refine mAst5 (ad := ad) hx hb hK hP hD hS (in400 (hv o b2).1) dX3_attribute_105 (fun H locs hP hD hS => ?_)
                      refine lv_goto (tgt := 149) hx hb dX3_attribute_106 (by decide) ?_
                      refine lv_iconst (v := 1) hx hb dX3_attribute_149 (by decide) ?_
                      refine W.widen (k := 0) (n := 0) (by omega) (by omega) ?_
                      exact weI (wf := fun u : MS => mW Y ad u) (mUp (mSetThr t 0) 5 o (vp_nar .boolean 0)) hx hb hr hlocks hP hD hS dX3_attribute_150 (⟨by first | (simp only [fAttr, b2, b6, c9, b27, b32, c36, c37, c43, c44, c47, decide_true, decide_false, Bool.not_true, Bool.not_false, Bool.and_true, Bool.true_and, Bool.and_false, Bool.false_and, Bool.or_true, Bool.true_or, Bool.or_false, Bool.false_or, Bool.and_self, Bool.or_self, if_true, if_false, ite_true, ite_false, Bool.false_eq_true, reduceIte, not_true_eq_false, not_false_eq_true, and_true, true_and, and_false, false_and, or_true, true_or, or_false, false_or, and_self, or_self, eq_self, decide_eq_true_eq, Bool.true_eq_false, reduceCtorEq, ne_eq]; done) | (simp [fAttr, b2, b6, c9, b27, b32, c36, c37, c43, c44, c47, Int32.not_lt.mp c36]; done) | (simp only [fAttr, b2, b6, eq_true c9, b27, b32, c36, eq_true c37, eq_true c43, eq_true c44, c47, decide_true, decide_false, Bool.not_true, Bool.not_false, Bool.and_true, Bool.true_and, Bool.and_false, Bool.false_and, Bool.or_true, Bool.true_or, Bool.or_false, Bool.false_or, Bool.and_self, Bool.or_self, if_true, if_false, ite_true, ite_false, Bool.false_eq_true, reduceIte, not_true_eq_false, not_false_eq_true, and_true, true_and, and_false, false_and, or_true, true_or, or_false, false_or, and_self, or_self, eq_self, decide_eq_true_eq, Bool.true_eq_false, reduceCtorEq, ne_eq]; done) | (simp [fAttr, b2, b6, eq_true c9, b27, b32, c36, eq_true c37, eq_true c43, eq_true c44, c47, Int32.not_lt.mp c36]; done), by first | (simp only [fAttr, b2, b6, c9, b27, b32, c36, c37, c43, c44, c47, decide_true, decide_false, Bool.not_true, Bool.not_false, Bool.and_true, Bool.true_and, Bool.and_false, Bool.false_and, Bool.or_true, Bool.true_or, Bool.or_false, Bool.false_or, Bool.and_self, Bool.or_self, if_true, if_false, ite_true, ite_false, Bool.false_eq_true, reduceIte, not_true_eq_false, not_false_eq_true, and_true, true_and, and_false, false_and, or_true, true_or, or_false, false_or, and_self, or_self, eq_self, decide_eq_true_eq, Bool.true_eq_false, reduceCtorEq, ne_eq]; done) | (simp [fAttr, b2, b6, c9, b27, b32, c36, c37, c43, c44, c47, Int32.not_lt.mp c36]; done) | (simp only [fAttr, b2, b6, eq_true c9, b27, b32, c36, eq_true c37, eq_true c43, eq_true c44, c47, decide_true, decide_false, Bool.not_true, Bool.not_false, Bool.and_true, Bool.true_and, Bool.and_false, Bool.false_and, Bool.or_true, Bool.true_or, Bool.or_false, Bool.false_or, Bool.and_self, Bool.or_self, if_true, if_false, ite_true, ite_false, Bool.false_eq_true, reduceIte, not_true_eq_false, not_false_eq_true, and_true, true_and, and_false, false_and, or_true, true_or, or_false, false_or, and_self, or_self, eq_self, decide_eq_true_eq, Bool.true_eq_false, reduceCtorEq, ne_eq]; done) | (simp [fAttr, b2, b6, eq_true c9, b27, b32, c36, eq_true c37, eq_true c43, eq_true c44, c47, Int32.not_lt.mp c36]; done)⟩)
                    · skip
                      refine lv_iconst (v := 1) hx hb dX3_attribute_100 (by decide) ?_
                      refine lv_goto (tgt := 105) hx hb dX3_attribute_101 (by decide) ?_
                      refine mAst5 (ad := ad) hx hb hK hP hD hS (in400 (hv o b2).1) dX3_attribute_105 (fun H locs hP hD hS => ?_)
                      refine lv_goto (tgt := 149) hx hb dX3_attribute_106 (by decide) ?_
                      refine lv_iconst (v := 1) hx hb dX3_attribute_149 (by decide) ?_
                      refine W.widen (k := 0) (n := 0) (by omega) (by omega) ?_
                      exact weI (wf := fun u : MS => mW Y ad u) (mUp (mSetThr t 0) 5 o (vp_nar .boolean 1)) hx hb hr hlocks hP hD hS dX3_attribute_150 (⟨by first | (simp only [fAttr, b2, b6, c9, b27, b32, c36, c37, c43, c44, c47, decide_true, decide_false, Bool.not_true, Bool.not_false, Bool.and_true, Bool.true_and, Bool.and_false, Bool.false_and, Bool.or_true, Bool.true_or, Bool.or_false, Bool.false_or, Bool.and_self, Bool.or_self, if_true, if_false, ite_true, ite_false, Bool.false_eq_true, reduceIte, not_true_eq_false, not_false_eq_true, and_true, true_and, and_false, false_and, or_true, true_or, or_false, false_or, and_self, or_self, eq_self, decide_eq_true_eq, Bool.true_eq_false, reduceCtorEq, ne_eq]; done) | (simp [fAttr, b2, b6, c9, b27, b32, c36, c37, c43, c44, c47, Int32.not_lt.mp c36]; done) | (simp only [fAttr, b2, b6, eq_true c9, b27, b32, c36, eq_true c37, eq_true c43, eq_true c44, eq_true c47, decide_true, decide_false, Bool.not_true, Bool.not_false, Bool.and_true, Bool.true_and, Bool.and_false, Bool.false_and, Bool.or_true, Bool.true_or, Bool.or_false, Bool.false_or, Bool.and_self, Bool.or_self, if_true, if_false, ite_true, ite_false, Bool.false_eq_true, reduceIte, not_true_eq_false, not_false_eq_true, and_true, true_and, and_false, false_and, or_true, true_or, or_false, false_or, and_self, or_self, eq_self, decide_eq_true_eq, Bool.true_eq_false, reduceCtorEq, ne_eq]; done) | (simp [fAttr, b2, b6, eq_true c9, b27, b32, c36, eq_true c37, eq_true c43, eq_true c44, eq_true c47, Int32.not_lt.mp c36]; done), by first | (simp only [fAttr, b2, b6, c9, b27, b32, c36, c37, c43, c44, c47, decide_true, decide_false, Bool.not_true, Bool.not_false, Bool.and_true, Bool.true_and, Bool.and_false, Bool.false_and, Bool.or_true, Bool.true_or, Bool.or_false, Bool.false_or, Bool.and_self, Bool.or_self, if_true, if_false, ite_true, ite_false, Bool.false_eq_true, reduceIte, not_true_eq_false, not_false_eq_true, and_true, true_and, and_false, false_and, or_true, true_or, or_false, false_or, and_self, or_self, eq_self, decide_eq_true_eq, Bool.true_eq_false, reduceCtorEq, ne_eq]; done) | (simp [fAttr, b2, b6, c9, b27, b32, c36, c37, c43, c44, c47, Int32.not_lt.mp c36]; done) | (simp only [fAttr, b2, b6, eq_true c9, b27, b32, c36, eq_true c37, eq_true c43, eq_true c44, eq_true c47, decide_true, decide_false, Bool.not_true, Bool.not_false, Bool.and_true, Bool.true_and, Bool.and_false, Bool.false_and, Bool.or_true, Bool.true_or, Bool.or_false, Bool.false_or, Bool.and_self, Bool.or_self, if_true, if_false, ite_true, ite_false, Bool.false_eq_true, reduceIte, not_true_eq_false, not_false_eq_true, and_true, true_and, and_false, false_and, or_true, true_or, or_false, false_or, and_self, or_self, eq_self, decide_eq_true_eq, Bool.true_eq_false, reduceCtorEq, ne_eq]; done) | (simp [fAttr, b2, b6, eq_true c9, b27, b32, c36, eq_true c37, eq_true c43, eq_true c44, eq_true c47, Int32.not_lt.mp c36]; done)⟩)
                · skip
                  refine lv_bipush (v := (-3)) hx hb dX3_attribute_83 (by decide) ?_
                  refine W.widen (k := 0) (n := 0) (by omega) (by omega) ?_
                  exact weI (wf := fun u : MS => mW Y ad u) (mSetThr t 0) hx hb hr hlocks hP hD hS dX3_attribute_85 (⟨by first | (simp only [fAttr, b2, b6, c9, b27, b32, c36, c37, c43, decide_true, decide_false, Bool.not_true, Bool.not_false, Bool.and_true, Bool.true_and, Bool.and_false, Bool.false_and, Bool.or_true, Bool.true_or, Bool.or_false, Bool.false_or, Bool.and_self, Bool.or_self, if_true, if_false, ite_true, ite_false, Bool.false_eq_true, reduceIte, not_true_eq_false, not_false_eq_true, and_true, true_and, and_false, false_and, or_true, true_or, or_false, false_or, and_self, or_self, eq_self, decide_eq_true_eq, Bool.true_eq_false, reduceCtorEq, ne_eq]; done) | (simp [fAttr, b2, b6, c9, b27, b32, c36, c37, c43, Int32.not_lt.mp c36]; done) | (simp only [fAttr, b2, b6, eq_true c9, b27, b32, c36, eq_true c37, c43, decide_true, decide_false, Bool.not_true, Bool.not_false, Bool.and_true, Bool.true_and, Bool.and_false, Bool.false_and, Bool.or_true, Bool.true_or, Bool.or_false, Bool.false_or, Bool.and_self, Bool.or_self, if_true, if_false, ite_true, ite_false, Bool.false_eq_true, reduceIte, not_true_eq_false, not_false_eq_true, and_true, true_and, and_false, false_and, or_true, true_or, or_false, false_or, and_self, or_self, eq_self, decide_eq_true_eq, Bool.true_eq_false, reduceCtorEq, ne_eq]; done) | (simp [fAttr, b2, b6, eq_true c9, b27, b32, c36, eq_true c37, c43, Int32.not_lt.mp c36]; done), by first | (simp only [fAttr, b2, b6, c9, b27, b32, c36, c37, c43, decide_true, decide_false, Bool.not_true, Bool.not_false, Bool.and_true, Bool.true_and, Bool.and_false, Bool.false_and, Bool.or_true, Bool.true_or, Bool.or_false, Bool.false_or, Bool.and_self, Bool.or_self, if_true, if_false, ite_true, ite_false, Bool.false_eq_true, reduceIte, not_true_eq_false, not_false_eq_true, and_true, true_and, and_false, false_and, or_true, true_or, or_false, false_or, and_self, or_self, eq_self, decide_eq_true_eq, Bool.true_eq_false, reduceCtorEq, ne_eq]; done) | (simp [fAttr, b2, b6, c9, b27, b32, c36, c37, c43, Int32.not_lt.mp c36]; done) | (simp only [fAttr, b2, b6, eq_true c9, b27, b32, c36, eq_true c37, c43, decide_true, decide_false, Bool.not_true, Bool.not_false, Bool.and_true, Bool.true_and, Bool.and_false, Bool.false_and, Bool.or_true, Bool.true_or, Bool.or_false, Bool.false_or, Bool.and_self, Bool.or_self, if_true, if_false, ite_true, ite_false, Bool.false_eq_true, reduceIte, not_true_eq_false, not_false_eq_true, and_true, true_and, and_false, false_and, or_true, true_or, or_false, false_or, and_self, or_self, eq_self, decide_eq_true_eq, Bool.true_eq_false, reduceCtorEq, ne_eq]; done) | (simp [fAttr, b2, b6, eq_true c9, b27, b32, c36, eq_true c37, c43, Int32.not_lt.mp c36]; done)⟩)
theorem hdX3_attribute : yX3_attribute.cls = RX3 ∧ yX3_attribute.cls ≠ "java/lang/invoke/MethodHandle" ∧ yX3_attribute.cls ≠ "java/lang/invoke/VarHandle" ∧ (parseMethodDescriptor yX3_attribute.desc).map (fun d => d.parameters.length) = some 3 := by decide +kernel
set_option maxHeartbeats 4000000 in
set_option maxRecDepth 100000 in
theorem c_X3_entry (l : Launch) (D : va_G) (Y : Nat → ClassId) (ad : MA) (t : MS) (sz : Nat) (d : Int32) (k : Int32) (v : Int32) (hv : ∀ o, qObj t o = true → mV t o) (hroom : ∀ d, qObj t d = true → mK t d = 7 → (¬ mEn t (mNu t d) = 32 ∨ ¬ mEn t (mNu t d) = mCp t (mNu t d)) → vp_in (32 * mNu t d + mEn t (mNu t d)) 12800) : Met l yX3_entry wsX3_entry ({ frames := 5, cells := 0, slots := 0, locals := 111 }) (wrPc D Y [.ref (mO ad), .int d, .int k, .int v] (mW Y ad t) sz) (va_Qi (fun (ans : Int32) (u : MS) => ans = (fEntry t d k v).1 ∧ u = (fEntry t d k v).2) (wrB D (va_A (mW Y ad t) sz) (fun u : MS => mW Y ad u)) (va_A (mW Y ad t) sz)) (0) (0) (va_A (mW Y ad t) sz) := by
  refine wrOf (Qc := fun A => va_Qi (fun (ans : Int32) (u : MS) => ans = (fEntry t d k v).1 ∧ u = (fEntry t d k v).2) (wrB D A (fun u : MS => mW Y ad u)) A) (cc := cX3_entry) (maxL := 8) (ret := (some .int)) (own := RX3) (by decide) rfl rfl (Nat.le_of_ble_eq_true rfl) ?_
  intro p e s m below meth c ls A hx hb hr hts hown hml hlocks hin hA hP hD hS hK hl
  have iwX3 : ∀ w ∈ u_ws RX3 TX3 19, w ∈ wsX3_entry := fun _ h => List.mem_cons_of_mem _ (List.mem_append_right _ h)
  have hl : lv_has ls 8 [(0, .ref (mO ad)), (1, .int d), (2, .int k), (3, .int v)] := hl
  have hS : va_S A s.heap s.heap [] := hS
  refine lv_aload_n hx hb dX3_entry_0 rfl (lv_at hl 0 rfl) ?_
  refine lv_iconst (v := 0) hx hb dX3_entry_1 (by decide) ?_
  refine mFput0 (ad := ad) hx hb hts iwX3 hown hK hP hD hS (hts (.fieldLink RX3 65 "ObjectRowsModel" "thrown" "I") (by decide +kernel)) dX3_entry_2 (fun H locs hP hD hS => ?_)
  refine lv_aload_n hx hb dX3_entry_5 rfl (lv_at hl 0 rfl) ?_
  refine lv_iload_n hx hb dX3_entry_6 rfl (lv_at hl 1 rfl) ?_
  refine rcI (As := [.int d]) (rest := []) ⟨hx, hb, hml, hown, hts⟩ (c_X3_isObject l D Y ad (mSetThr t 0) d ) (cwV 1 hts gX3_entry_X3_isObject rfl rfl rfl hdX3_isObject ⟨Nat.le_of_ble_eq_true rfl, Nat.le_of_ble_eq_true rfl⟩) hP hK 0 4 rfl rfl rfl hl.1 rfl (Nat.le_of_ble_eq_true rfl) dX3_entry_7 ⟨(Nat.zero_le _), (Nat.zero_le _)⟩ (fun r1 hr1 => ?_)
  replace hr1 : r1 = bI (qObj t d) := hr1
  cases b2 : qObj t d
  · replace hr1 : r1 = 0 := by rw [hr1, b2]; rfl
    subst hr1
    refine lv_if_eq (tgt := 29) hx hb dX3_entry_10 (by decide) (fun _ => ?_) (fun c3 => absurd (by decide) c3)
    refine lv_iconst (v := (-1)) hx hb dX3_entry_29 (by decide) ?_
    refine W.widen (k := 0) (n := 0) (by omega) (by omega) ?_
    exact weI (wf := fun u : MS => mW Y ad u) (mSetThr t 0) hx hb hr hlocks hP hD hS dX3_entry_30 (⟨by first | (simp only [fEntry, fMore, b2, decide_true, decide_false, Bool.not_true, Bool.not_false, Bool.and_true, Bool.true_and, Bool.and_false, Bool.false_and, Bool.or_true, Bool.true_or, Bool.or_false, Bool.false_or, Bool.and_self, Bool.or_self, if_true, if_false, ite_true, ite_false, Bool.false_eq_true, reduceIte, not_true_eq_false, not_false_eq_true, and_true, true_and, and_false, false_and, or_true, true_or, or_false, false_or, and_self, or_self, eq_self, decide_eq_true_eq, Bool.true_eq_false, reduceCtorEq, ne_eq]; done) | (simp [fEntry, fMore, b2]; done), by first | (simp only [fEntry, fMore, b2, decide_true, decide_false, Bool.not_true, Bool.not_false, Bool.and_true, Bool.true_and, Bool.and_false, Bool.false_and, Bool.or_true, Bool.true_or, Bool.or_false, Bool.false_or, Bool.and_self, Bool.or_self, if_true, if_false, ite_true, ite_false, Bool.false_eq_true, reduceIte, not_true_eq_false, not_false_eq_true, and_true, true_and, and_false, false_and, or_true, true_or, or_false, false_or, and_self, or_self, eq_self, decide_eq_true_eq, Bool.true_eq_false, reduceCtorEq, ne_eq]; done) | (simp [fEntry, fMore, b2]; done)⟩)
  · replace hr1 : r1 = 1 := by rw [hr1, b2]; rfl
    subst hr1
    refine lv_if_eq (tgt := 29) hx hb dX3_entry_10 (by decide) (fun c4 => absurd c4 (by decide)) (fun _ => ?_)
    refine lv_aload_n hx hb dX3_entry_13 rfl (lv_at hl 0 rfl) ?_
    refine lv_iload_n hx hb dX3_entry_14 rfl (lv_at hl 2 rfl) ?_
    refine rcI (As := [.int k]) (rest := []) ⟨hx, hb, hml, hown, hts⟩ (c_X3_isObject l D Y ad (mSetThr t 0) k ) (cwV 1 hts gX3_entry_X3_isObject rfl rfl rfl hdX3_isObject ⟨Nat.le_of_ble_eq_true rfl, Nat.le_of_ble_eq_true rfl⟩) hP hK 0 4 rfl rfl rfl hl.1 rfl (Nat.le_of_ble_eq_true rfl) dX3_entry_15 ⟨(Nat.zero_le _), (Nat.zero_le _)⟩ (fun r5 hr5 => ?_)
    replace hr5 : r5 = bI (qObj t k) := hr5
    cases b6 : qObj t k
    · replace hr5 : r5 = 0 := by rw [hr5, b6]; rfl
      subst hr5
      refine lv_if_eq (tgt := 29) hx hb dX3_entry_18 (by decide) (fun _ => ?_) (fun c7 => absurd (by decide) c7)
      refine lv_iconst (v := (-1)) hx hb dX3_entry_29 (by decide) ?_
      refine W.widen (k := 0) (n := 0) (by omega) (by omega) ?_
      exact weI (wf := fun u : MS => mW Y ad u) (mSetThr t 0) hx hb hr hlocks hP hD hS dX3_entry_30 (⟨by first | (simp only [fEntry, fMore, b2, b6, decide_true, decide_false, Bool.not_true, Bool.not_false, Bool.and_true, Bool.true_and, Bool.and_false, Bool.false_and, Bool.or_true, Bool.true_or, Bool.or_false, Bool.false_or, Bool.and_self, Bool.or_self, if_true, if_false, ite_true, ite_false, Bool.false_eq_true, reduceIte, not_true_eq_false, not_false_eq_true, and_true, true_and, and_false, false_and, or_true, true_or, or_false, false_or, and_self, or_self, eq_self, decide_eq_true_eq, Bool.true_eq_false, reduceCtorEq, ne_eq]; done) | (simp [fEntry, fMore, b2, b6]; done), by first | (simp only [fEntry, fMore, b2, b6, decide_true, decide_false, Bool.not_true, Bool.not_false, Bool.and_true, Bool.true_and, Bool.and_false, Bool.false_and, Bool.or_true, Bool.true_or, Bool.or_false, Bool.false_or, Bool.and_self, Bool.or_self, if_true, if_false, ite_true, ite_false, Bool.false_eq_true, reduceIte, not_true_eq_false, not_false_eq_true, and_true, true_and, and_false, false_and, or_true, true_or, or_false, false_or, and_self, or_self, eq_self, decide_eq_true_eq, Bool.true_eq_false, reduceCtorEq, ne_eq]; done) | (simp [fEntry, fMore, b2, b6]; done)⟩)
    · replace hr5 : r5 = 1 := by rw [hr5, b6]; rfl
      subst hr5
      refine lv_if_eq (tgt := 29) hx hb dX3_entry_18 (by decide) (fun c8 => absurd c8 (by decide)) (fun _ => ?_)
      refine lv_aload_n hx hb dX3_entry_21 rfl (lv_at hl 0 rfl) ?_
      refine lv_iload_n hx hb dX3_entry_22 rfl (lv_at hl 3 rfl) ?_
      refine rcI (As := [.int v]) (rest := []) ⟨hx, hb, hml, hown, hts⟩ (c_X3_isObject l D Y ad (mSetThr t 0) v ) (cwV 1 hts gX3_entry_X3_isObject rfl rfl rfl hdX3_isObject ⟨Nat.le_of_ble_eq_true rfl, Nat.le_of_ble_eq_true rfl⟩) hP hK 0 4 rfl rfl rfl hl.1 rfl (Nat.le_of_ble_eq_true rfl) dX3_entry_23 ⟨(Nat.zero_le _), (Nat.zero_le _)⟩ (fun r9 hr9 => ?_)
      replace hr9 : r9 = bI (qObj t v) := hr9
      cases b10 : qObj t v
      · replace hr9 : r9 = 0 := by rw [hr9, b10]; rfl
        subst hr9
        refine lv_if_ne (tgt := 31) hx hb dX3_entry_26 (by decide) (fun c11 => absurd (by decide) c11) (fun _ => ?_)
        refine lv_iconst (v := (-1)) hx hb dX3_entry_29 (by decide) ?_
        refine W.widen (k := 0) (n := 0) (by omega) (by omega) ?_
        exact weI (wf := fun u : MS => mW Y ad u) (mSetThr t 0) hx hb hr hlocks hP hD hS dX3_entry_30 (⟨by first | (simp only [fEntry, fMore, b2, b6, b10, decide_true, decide_false, Bool.not_true, Bool.not_false, Bool.and_true, Bool.true_and, Bool.and_false, Bool.false_and, Bool.or_true, Bool.true_or, Bool.or_false, Bool.false_or, Bool.and_self, Bool.or_self, if_true, if_false, ite_true, ite_false, Bool.false_eq_true, reduceIte, not_true_eq_false, not_false_eq_true, and_true, true_and, and_false, false_and, or_true, true_or, or_false, false_or, and_self, or_self, eq_self, decide_eq_true_eq, Bool.true_eq_false, reduceCtorEq, ne_eq]; done) | (simp [fEntry, fMore, b2, b6, b10]; done), by first | (simp only [fEntry, fMore, b2, b6, b10, decide_true, decide_false, Bool.not_true, Bool.not_false, Bool.and_true, Bool.true_and, Bool.and_false, Bool.false_and, Bool.or_true, Bool.true_or, Bool.or_false, Bool.false_or, Bool.and_self, Bool.or_self, if_true, if_false, ite_true, ite_false, Bool.false_eq_true, reduceIte, not_true_eq_false, not_false_eq_true, and_true, true_and, and_false, false_and, or_true, true_or, or_false, false_or, and_self, or_self, eq_self, decide_eq_true_eq, Bool.true_eq_false, reduceCtorEq, ne_eq]; done) | (simp [fEntry, fMore, b2, b6, b10]; done)⟩)
      · replace hr9 : r9 = 1 := by rw [hr9, b10]; rfl
        subst hr9
        refine lv_if_ne (tgt := 31) hx hb dX3_entry_26 (by decide) (fun _ => ?_) (fun c12 => absurd c12 (by decide))
        refine lv_aload_n hx hb dX3_entry_31 rfl (lv_at hl 0 rfl) ?_
        refine va_get (D := D) (ci := 4) (v := .ref (mH ad 0)) (C := RX3) (T := TX3) (N := 19) hx hb hts iwX3 hown hK hP 0 rfl rfl 4 (by decide) (hts (.fieldLink RX3 16 "ObjectRowsModel" "kinds" "[I") (by decide +kernel)) (fun _ h9 => h9) rfl dX3_entry_32 ?_
        refine lv_iload_n hx hb dX3_entry_35 rfl (lv_at hl 1 rfl) ?_
        refine va_iald hx hb hK hP 1 0 rfl rfl (hv d b2).1 dX3_entry_36 ?_
        refine lv_topi (fun y13 ey13 => ?_)
        obtain rfl : y13 = mK t d := ey13
        refine lv_bipush (v := 7) hx hb dX3_entry_37 (by decide) ?_
        refine lv_icmp_ne (tgt := 59) hx hb dX3_entry_39 (by decide) (fun c14 => ?_) (fun c14 => ?_)
        · skip
          refine lv_bipush (v := (-3)) hx hb dX3_entry_59 (by decide) ?_
          refine W.widen (k := 0) (n := 0) (by omega) (by omega) ?_
          exact weI (wf := fun u : MS => mW Y ad u) (mSetThr t 0) hx hb hr hlocks hP hD hS dX3_entry_61 (⟨by first | (simp only [fEntry, fMore, b2, b6, b10, c14, decide_true, decide_false, Bool.not_true, Bool.not_false, Bool.and_true, Bool.true_and, Bool.and_false, Bool.false_and, Bool.or_true, Bool.true_or, Bool.or_false, Bool.false_or, Bool.and_self, Bool.or_self, if_true, if_false, ite_true, ite_false, Bool.false_eq_true, reduceIte, not_true_eq_false, not_false_eq_true, and_true, true_and, and_false, false_and, or_true, true_or, or_false, false_or, and_self, or_self, eq_self, decide_eq_true_eq, Bool.true_eq_false, reduceCtorEq, ne_eq]; done) | (simp [fEntry, fMore, b2, b6, b10, c14]; done), by first | (simp only [fEntry, fMore, b2, b6, b10, c14, decide_true, decide_false, Bool.not_true, Bool.not_false, Bool.and_true, Bool.true_and, Bool.and_false, Bool.false_and, Bool.or_true, Bool.true_or, Bool.or_false, Bool.false_or, Bool.and_self, Bool.or_self, if_true, if_false, ite_true, ite_false, Bool.false_eq_true, reduceIte, not_true_eq_false, not_false_eq_true, and_true, true_and, and_false, false_and, or_true, true_or, or_false, false_or, and_self, or_self, eq_self, decide_eq_true_eq, Bool.true_eq_false, reduceCtorEq, ne_eq]; done) | (simp [fEntry, fMore, b2, b6, b10, c14]; done)⟩)
        · skip
          refine lv_aload_n hx hb dX3_entry_42 rfl (lv_at hl 0 rfl) ?_
          refine lv_iload_n hx hb dX3_entry_43 rfl (lv_at hl 1 rfl) ?_
          refine rcI (As := [.int d]) (rest := []) ⟨hx, hb, hml, hown, hts⟩ (c_X3_accessOf l D Y ad (mSetThr t 0) d (hv d b2).1 (hv d b2).2.1) (cwV 1 hts gX3_entry_X3_accessOf rfl rfl rfl hdX3_accessOf ⟨Nat.le_of_ble_eq_true rfl, Nat.le_of_ble_eq_true rfl⟩) hP hK 0 4 rfl rfl rfl hl.1 rfl (Nat.le_of_ble_eq_true rfl) dX3_entry_44 ⟨(Nat.zero_le _), (Nat.zero_le _)⟩ (fun r15 hr15 => ?_)
          obtain rfl : r15 = qAcc t d := hr15
          refine lv_iconst (v := 3) hx hb dX3_entry_47 (by decide) ?_
          refine lv_icmp_ne (tgt := 59) hx hb dX3_entry_48 (by decide) (fun c16 => ?_) (fun c16 => ?_)
          · skip
            refine lv_bipush (v := (-3)) hx hb dX3_entry_59 (by decide) ?_
            refine W.widen (k := 0) (n := 0) (by omega) (by omega) ?_
            exact weI (wf := fun u : MS => mW Y ad u) (mSetThr t 0) hx hb hr hlocks hP hD hS dX3_entry_61 (⟨by first | (simp only [fEntry, fMore, b2, b6, b10, c14, c16, decide_true, decide_false, Bool.not_true, Bool.not_false, Bool.and_true, Bool.true_and, Bool.and_false, Bool.false_and, Bool.or_true, Bool.true_or, Bool.or_false, Bool.false_or, Bool.and_self, Bool.or_self, if_true, if_false, ite_true, ite_false, Bool.false_eq_true, reduceIte, not_true_eq_false, not_false_eq_true, and_true, true_and, and_false, false_and, or_true, true_or, or_false, false_or, and_self, or_self, eq_self, decide_eq_true_eq, Bool.true_eq_false, reduceCtorEq, ne_eq]; done) | (simp [fEntry, fMore, b2, b6, b10, c14, c16]; done) | (simp only [fEntry, fMore, b2, b6, b10, eq_true c14, c16, decide_true, decide_false, Bool.not_true, Bool.not_false, Bool.and_true, Bool.true_and, Bool.and_false, Bool.false_and, Bool.or_true, Bool.true_or, Bool.or_false, Bool.false_or, Bool.and_self, Bool.or_self, if_true, if_false, ite_true, ite_false, Bool.false_eq_true, reduceIte, not_true_eq_false, not_false_eq_true, and_true, true_and, and_false, false_and, or_true, true_or, or_false, false_or, and_self, or_self, eq_self, decide_eq_true_eq, Bool.true_eq_false, reduceCtorEq, ne_eq]; done) | (simp [fEntry, fMore, b2, b6, b10, eq_true c14, c16]; done), by first | (simp only [fEntry, fMore, b2, b6, b10, c14, c16, decide_true, decide_false, Bool.not_true, Bool.not_false, Bool.and_true, Bool.true_and, Bool.and_false, Bool.false_and, Bool.or_true, Bool.true_or, Bool.or_false, Bool.false_or, Bool.and_self, Bool.or_self, if_true, if_false, ite_true, ite_false, Bool.false_eq_true, reduceIte, not_true_eq_false, not_false_eq_true, and_true, true_and, and_false, false_and, or_true, true_or, or_false, false_or, and_self, or_self, eq_self, decide_eq_true_eq, Bool.true_eq_false, reduceCtorEq, ne_eq]; done) | (simp [fEntry, fMore, b2, b6, b10, c14, c16]; done) | (simp only [fEntry, fMore, b2, b6, b10, eq_true c14, c16, decide_true, decide_false, Bool.not_true, Bool.not_false, Bool.and_true, Bool.true_and, Bool.and_false, Bool.false_and, Bool.or_true, Bool.true_or, Bool.or_false, Bool.false_or, Bool.and_self, Bool.or_self, if_true, if_false, ite_true, ite_false, Bool.false_eq_true, reduceIte, not_true_eq_false, not_false_eq_true, and_true, true_and, and_false, false_and, or_true, true_or, or_false, false_or, and_self, or_self, eq_self, decide_eq_true_eq, Bool.true_eq_false, reduceCtorEq, ne_eq]; done) | (simp [fEntry, fMore, b2, b6, b10, eq_true c14, c16]; done)⟩)
          · skip
            refine lv_aload_n hx hb dX3_entry_51 rfl (lv_at hl 0 rfl) ?_
            refine lv_iload_n hx hb dX3_entry_52 rfl (lv_at hl 2 rfl) ?_
            refine rcI (As := [.int k]) (rest := []) ⟨hx, hb, hml, hown, hts⟩ (c_X3_isKey l D Y ad (mSetThr t 0) k (hv k b6).1 (hv k b6).2.1 (hv k b6).2.2.1) (cwV 1 hts gX3_entry_X3_isKey rfl rfl rfl hdX3_isKey ⟨Nat.le_of_ble_eq_true rfl, Nat.le_of_ble_eq_true rfl⟩) hP hK 0 4 rfl rfl rfl hl.1 rfl (Nat.le_of_ble_eq_true rfl) dX3_entry_53 ⟨(Nat.zero_le _), (Nat.zero_le _)⟩ (fun r17 hr17 => ?_)
            replace hr17 := hr17.trans (congrArg bI (qKey_cg (t := t) rfl rfl rfl rfl rfl rfl))
            replace hr17 : r17 = bI (qKey t k) := hr17
            cases b18 : qKey t k
            · replace hr17 : r17 = 0 := by rw [hr17, b18]; rfl
              subst hr17
              refine lv_if_ne (tgt := 62) hx hb dX3_entry_56 (by decide) (fun c19 => absurd (by decide) c19) (fun _ => ?_)
              refine lv_bipush (v := (-3)) hx hb dX3_entry_59 (by decide) ?_
              refine W.widen (k := 0) (n := 0) (by omega) (by omega) ?_
              exact weI (wf := fun u : MS => mW Y ad u) (mSetThr t 0) hx hb hr hlocks hP hD hS dX3_entry_61 (⟨by first | (simp only [fEntry, fMore, b2, b6, b10, c14, c16, b18, decide_true, decide_false, Bool.not_true, Bool.not_false, Bool.and_true, Bool.true_and, Bool.and_false, Bool.false_and, Bool.or_true, Bool.true_or, Bool.or_false, Bool.false_or, Bool.and_self, Bool.or_self, if_true, if_false, ite_true, ite_false, Bool.false_eq_true, reduceIte, not_true_eq_false, not_false_eq_true, and_true, true_and, and_false, false_and, or_true, true_or, or_false, false_or, and_self, or_self, eq_self, decide_eq_true_eq, Bool.true_eq_false, reduceCtorEq, ne_eq]; done) | (simp [fEntry, fMore, b2, b6, b10, c14, c16, b18]; done) | (simp only [fEntry, fMore, b2, b6, b10, eq_true c14, eq_true c16, b18, decide_true, decide_false, Bool.not_true, Bool.not_false, Bool.and_true, Bool.true_and, Bool.and_false, Bool.false_and, Bool.or_true, Bool.true_or, Bool.or_false, Bool.false_or, Bool.and_self, Bool.or_self, if_true, if_false, ite_true, ite_false, Bool.false_eq_true, reduceIte, not_true_eq_false, not_false_eq_true, and_true, true_and, and_false, false_and, or_true, true_or, or_false, false_or, and_self, or_self, eq_self, decide_eq_true_eq, Bool.true_eq_false, reduceCtorEq, ne_eq]; done) | (simp [fEntry, fMore, b2, b6, b10, eq_true c14, eq_true c16, b18]; done), by first | (simp only [fEntry, fMore, b2, b6, b10, c14, c16, b18, decide_true, decide_false, Bool.not_true, Bool.not_false, Bool.and_true, Bool.true_and, Bool.and_false, Bool.false_and, Bool.or_true, Bool.true_or, Bool.or_false, Bool.false_or, Bool.and_self, Bool.or_self, if_true, if_false, ite_true, ite_false, Bool.false_eq_true, reduceIte, not_true_eq_false, not_false_eq_true, and_true, true_and, and_false, false_and, or_true, true_or, or_false, false_or, and_self, or_self, eq_self, decide_eq_true_eq, Bool.true_eq_false, reduceCtorEq, ne_eq]; done) | (simp [fEntry, fMore, b2, b6, b10, c14, c16, b18]; done) | (simp only [fEntry, fMore, b2, b6, b10, eq_true c14, eq_true c16, b18, decide_true, decide_false, Bool.not_true, Bool.not_false, Bool.and_true, Bool.true_and, Bool.and_false, Bool.false_and, Bool.or_true, Bool.true_or, Bool.or_false, Bool.false_or, Bool.and_self, Bool.or_self, if_true, if_false, ite_true, ite_false, Bool.false_eq_true, reduceIte, not_true_eq_false, not_false_eq_true, and_true, true_and, and_false, false_and, or_true, true_or, or_false, false_or, and_self, or_self, eq_self, decide_eq_true_eq, Bool.true_eq_false, reduceCtorEq, ne_eq]; done) | (simp [fEntry, fMore, b2, b6, b10, eq_true c14, eq_true c16, b18]; done)⟩)
            · replace hr17 : r17 = 1 := by rw [hr17, b18]; rfl
              subst hr17
              refine lv_if_ne (tgt := 62) hx hb dX3_entry_56 (by decide) (fun _ => ?_) (fun c20 => absurd c20 (by decide))
              refine lv_aload_n hx hb dX3_entry_62 rfl (lv_at hl 0 rfl) ?_
              refine va_get (D := D) (ci := 4) (v := .ref (mH ad 1)) (C := RX3) (T := TX3) (N := 19) hx hb hts iwX3 hown hK hP 0 rfl rfl 5 (by decide) (hts (.fieldLink RX3 20 "ObjectRowsModel" "numbers" "[I") (by decide +kernel)) (fun _ h9 => h9) rfl dX3_entry_63 ?_
              refine lv_iload_n hx hb dX3_entry_66 rfl (lv_at hl 1 rfl) ?_
              refine va_iald hx hb hK hP 2 0 rfl rfl (hv d b2).1 dX3_entry_67 ?_
              refine lv_topi (fun y21 ey21 => ?_)
              obtain rfl : y21 = mNu t d := ey21
              refine lv_istore (lv' := [(4, .int (mNu t d)), (0, .ref (mO ad)), (1, .int d), (2, .int k), (3, .int v)]) hx hb dX3_entry_68 hl (by decide) rfl (fun ls hl => ?_)
              refine lv_aload_n hx hb dX3_entry_70 rfl (lv_at hl 1 rfl) ?_
              refine lv_iload hx hb dX3_entry_71 (lv_at hl 0 rfl) ?_
              refine lv_aload_n hx hb dX3_entry_73 rfl (lv_at hl 1 rfl) ?_
              refine lv_iload_n hx hb dX3_entry_74 rfl (lv_at hl 3 rfl) ?_
              refine rcL (As := [.int k]) (rest := [.int (mNu t d), .ref (mO ad)]) ⟨hx, hb, hml, hown, hts⟩ (c_X3_code l D Y ad (mSetThr t 0) k (hv k b6).1 (hv k b6).2.1 (hv k b6).2.2.1) (cwV 1 hts gX3_entry_X3_code rfl rfl rfl hdX3_code ⟨Nat.le_of_ble_eq_true rfl, Nat.le_of_ble_eq_true rfl⟩) hP hK 0 4 rfl rfl rfl hl.1 rfl (Nat.le_of_ble_eq_true rfl) dX3_entry_75 ⟨(Nat.zero_le _), (Nat.zero_le _)⟩ (fun r22 hr22 => ?_)
              replace hr22 := hr22.trans (qCode_cg (t := t) rfl rfl rfl rfl rfl rfl)
              obtain rfl : r22 = qCode t k := hr22
              refine rcI (As := [.int (mNu t d), .long (qCode t k)]) (rest := []) ⟨hx, hb, hml, hown, hts⟩ (c_X3_placeOf l D Y ad (mSetThr t 0) (mNu t d) (qCode t k) ((hv d b2).2.2.2.2.2 c14).1 ((hv d b2).2.2.2.2.2 c14).2.1) (cwV 2 hts gX3_entry_X3_placeOf rfl rfl rfl hdX3_placeOf ⟨Nat.le_of_ble_eq_true rfl, Nat.le_of_ble_eq_true rfl⟩) hP hK 0 4 rfl rfl rfl hl.1 rfl (Nat.le_of_ble_eq_true rfl) dX3_entry_78 ⟨(Nat.zero_le _), (Nat.zero_le _)⟩ (fun r23 hr23 => ?_)
              replace hr23 := hr23.trans (qPlace_cg (t := t) rfl rfl)
              replace hr23 : r23 = qPlace t (mNu t d) (qCode t k) := hr23
              refine lv_istore (lv' := [(5, .int r23), (4, .int (mNu t d)), (0, .ref (mO ad)), (1, .int d), (2, .int k), (3, .int v)]) hx hb dX3_entry_81 hl (by decide) rfl (fun ls hl => ?_)
              refine lv_iload hx hb dX3_entry_83 (lv_at hl 0 rfl) ?_
              refine lv_if_ge (tgt := 250) hx hb dX3_entry_85 (by decide) (fun c24 => ?_) (fun c24 => ?_)
              · skip
                refine lv_aload_n hx hb dX3_entry_250 rfl (lv_at hl 2 rfl) ?_
                refine va_get (D := D) (ci := 4) (v := .ref (mH ad 12)) (C := RX3) (T := TX3) (N := 19) hx hb hts iwX3 hown hK hP 0 rfl rfl 16 (by decide) (hts (.fieldLink RX3 56 "ObjectRowsModel" "values" "[I") (by decide +kernel)) (fun _ h9 => h9) rfl dX3_entry_251 ?_
                refine lv_iload hx hb dX3_entry_254 (lv_at hl 0 rfl) ?_
                refine lv_iload_n hx hb dX3_entry_256 rfl (lv_at hl 5 rfl) ?_
                refine mAst12 (ad := ad) hx hb hK hP hD hS (by subst hr23; exact ((hv d b2).2.2.2.2.2 c14).2.2 _ c24) dX3_entry_257 (fun H locs hP hD hS => ?_)
                refine lv_iconst (v := 1) hx hb dX3_entry_258 (by decide) ?_
                refine W.widen (k := 0) (n := 0) (by omega) (by omega) ?_
                exact weI (wf := fun u : MS => mW Y ad u) (mUp (mSetThr t 0) 12 r23 v) hx hb hr hlocks hP hD hS dX3_entry_259 (⟨by first | (subst hr23; simp only [fEntry, fMore, b2, b6, b10, c14, c16, b18, c24, decide_true, decide_false, Bool.not_true, Bool.not_false, Bool.and_true, Bool.true_and, Bool.and_false, Bool.false_and, Bool.or_true, Bool.true_or, Bool.or_false, Bool.false_or, Bool.and_self, Bool.or_self, if_true, if_false, ite_true, ite_false, Bool.false_eq_true, reduceIte, not_true_eq_false, not_false_eq_true, and_true, true_and, and_false, false_and, or_true, true_or, or_false, false_or, and_self, or_self, eq_self, decide_eq_true_eq, Bool.true_eq_false, reduceCtorEq, ne_eq]; done) | (subst hr23; simp [fEntry, fMore, b2, b6, b10, c14, c16, b18, c24, Int32.not_lt.mpr c24]; done) | (subst hr23; simp only [fEntry, fMore, b2, b6, b10, eq_true c14, eq_true c16, b18, c24, decide_true, decide_false, Bool.not_true, Bool.not_false, Bool.and_true, Bool.true_and, Bool.and_false, Bool.false_and, Bool.or_true, Bool.true_or, Bool.or_false, Bool.false_or, Bool.and_self, Bool.or_self, if_true, if_false, ite_true, ite_false, Bool.false_eq_true, reduceIte, not_true_eq_false, not_false_eq_true, and_true, true_and, and_false, false_and, or_true, true_or, or_false, false_or, and_self, or_self, eq_self, decide_eq_true_eq, Bool.true_eq_false, reduceCtorEq, ne_eq]; done) | (subst hr23; simp [fEntry, fMore, b2, b6, b10, eq_true c14, eq_true c16, b18, c24, Int32.not_lt.mpr c24]; done), by first | (subst hr23; simp only [fEntry, fMore, b2, b6, b10, c14, c16, b18, c24, decide_true, decide_false, Bool.not_true, Bool.not_false, Bool.and_true, Bool.true_and, Bool.and_false, Bool.false_and, Bool.or_true, Bool.true_or, Bool.or_false, Bool.false_or, Bool.and_self, Bool.or_self, if_true, if_false, ite_true, ite_false, Bool.false_eq_true, reduceIte, not_true_eq_false, not_false_eq_true, and_true, true_and, and_false, false_and, or_true, true_or, or_false, false_or, and_self, or_self, eq_self, decide_eq_true_eq, Bool.true_eq_false, reduceCtorEq, ne_eq]; done) | (subst hr23; simp [fEntry, fMore, b2, b6, b10, c14, c16, b18, c24, Int32.not_lt.mpr c24]; done) | (subst hr23; simp only [fEntry, fMore, b2, b6, b10, eq_true c14, eq_true c16, b18, c24, decide_true, decide_false, Bool.not_true, Bool.not_false, Bool.and_true, Bool.true_and, Bool.and_false, Bool.false_and, Bool.or_true, Bool.true_or, Bool.or_false, Bool.false_or, Bool.and_self, Bool.or_self, if_true, if_false, ite_true, ite_false, Bool.false_eq_true, reduceIte, not_true_eq_false, not_false_eq_true, and_true, true_and, and_false, false_and, or_true, true_or, or_false, false_or, and_self, or_self, eq_self, decide_eq_true_eq, Bool.true_eq_false, reduceCtorEq, ne_eq]; done) | (subst hr23; simp [fEntry, fMore, b2, b6, b10, eq_true c14, eq_true c16, b18, c24, Int32.not_lt.mpr c24]; done)⟩)
              · skip
                refine lv_aload_n hx hb dX3_entry_88 rfl (lv_at hl 2 rfl) ?_
                refine va_get (D := D) (ci := 4) (v := .ref (mH ad 10)) (C := RX3) (T := TX3) (N := 19) hx hb hts iwX3 hown hK hP 0 rfl rfl 14 (by decide) (hts (.fieldLink RX3 49 "ObjectRowsModel" "entries" "[I") (by decide +kernel)) (fun _ h9 => h9) rfl dX3_entry_89 ?_
                refine lv_iload hx hb dX3_entry_92 (lv_at hl 1 rfl) ?_
                refine va_iald hx hb hK hP 11 0 rfl rfl ((hv d b2).2.2.2.2.2 c14).1 dX3_entry_94 ?_
                refine lv_topi (fun y25 ey25 => ?_)
                obtain rfl : y25 = mEn t (mNu t d) := ey25
                refine lv_aload_n hx hb dX3_entry_95 rfl (lv_at hl 2 rfl) ?_
                refine va_get (D := D) (ci := 4) (v := .ref (mH ad 8)) (C := RX3) (T := TX3) (N := 19) hx hb hts iwX3 hown hK hP 0 rfl rfl 12 (by decide) (hts (.fieldLink RX3 43 "ObjectRowsModel" "capacities" "[I") (by decide +kernel)) (fun _ h9 => h9) rfl dX3_entry_96 ?_
                refine lv_iload hx hb dX3_entry_99 (lv_at hl 1 rfl) ?_
                refine va_iald hx hb hK hP 9 0 rfl rfl ((hv d b2).2.2.2.2.2 c14).1 dX3_entry_101 ?_
                refine lv_topi (fun y26 ey26 => ?_)
                obtain rfl : y26 = mCp t (mNu t d) := ey26
                refine lv_icmp_ne (tgt := 109) hx hb dX3_entry_102 (by decide) (fun c27 => ?_) (fun c27 => ?_)
                · skip
                  refine lv_iconst (v := 0) hx hb dX3_entry_109 (by decide) ?_
                  refine lv_istore (lv' := [(6, .int 0), (5, .int r23), (4, .int (mNu t d)), (0, .ref (mO ad)), (1, .int d), (2, .int k), (3, .int v)]) hx hb dX3_entry_110 hl (by decide) rfl (fun ls hl => ?_)
                  refine lv_iload hx hb dX3_entry_112 (lv_at hl 0 rfl) ?_
                  refine lv_if_eq (tgt := 142) hx hb dX3_entry_114 (by decide) (fun _ => ?_) (fun c28 => absurd (by decide) c28)
                  refine lv_iload hx hb dX3_entry_142 (lv_at hl 0 rfl) ?_
                  refine lv_if_eq (tgt := 212) hx hb dX3_entry_144 (by decide) (fun _ => ?_) (fun c29 => absurd (by decide) c29)
                  refine lv_bipush (v := 32) hx hb dX3_entry_212 (by decide) ?_
                  refine lv_iload hx hb dX3_entry_214 (lv_at hl 2 rfl) ?_
                  refine lv_imul hx hb dX3_entry_216 ?_
                  refine lv_aload_n hx hb dX3_entry_217 rfl (lv_at hl 3 rfl) ?_
                  refine va_get (D := D) (ci := 4) (v := .ref (mH ad 10)) (C := RX3) (T := TX3) (N := 19) hx hb hts iwX3 hown hK hP 0 rfl rfl 14 (by decide) (hts (.fieldLink RX3 49 "ObjectRowsModel" "entries" "[I") (by decide +kernel)) (fun _ h9 => h9) rfl dX3_entry_218 ?_
                  refine lv_iload hx hb dX3_entry_221 (lv_at hl 2 rfl) ?_
                  refine va_iald hx hb hK hP 11 0 rfl rfl ((hv d b2).2.2.2.2.2 c14).1 dX3_entry_223 ?_
                  refine lv_topi (fun y30 ey30 => ?_)
                  obtain rfl : y30 = mEn t (mNu t d) := ey30
                  refine lv_iadd hx hb dX3_entry_224 ?_
                  refine lv_topi (fun y31 ey31 => ?_)
                  refine lv_istore (lv' := [(5, .int y31), (6, .int 0), (4, .int (mNu t d)), (0, .ref (mO ad)), (1, .int d), (2, .int k), (3, .int v)]) hx hb dX3_entry_225 hl (by decide) rfl (fun ls hl => ?_)
                  refine lv_aload_n hx hb dX3_entry_227 rfl (lv_at hl 3 rfl) ?_
                  refine va_get (D := D) (ci := 4) (v := .ref (mH ad 11)) (C := RX3) (T := TX3) (N := 19) hx hb hts iwX3 hown hK hP 0 rfl rfl 15 (by decide) (hts (.fieldLink RX3 52 "ObjectRowsModel" "keys" "[J") (by decide +kernel)) (fun _ h9 => h9) rfl dX3_entry_228 ?_
                  refine lv_iload hx hb dX3_entry_231 (lv_at hl 0 rfl) ?_
                  refine lv_aload_n hx hb dX3_entry_233 rfl (lv_at hl 3 rfl) ?_
                  refine lv_iload_n hx hb dX3_entry_234 rfl (lv_at hl 5 rfl) ?_
                  refine rcL (As := [.int k]) (rest := [.int y31, .ref (mH ad 11)]) ⟨hx, hb, hml, hown, hts⟩ (c_X3_code l D Y ad (mSetThr t 0) k (hv k b6).1 (hv k b6).2.1 (hv k b6).2.2.1) (cwV 1 hts gX3_entry_X3_code rfl rfl rfl hdX3_code ⟨Nat.le_of_ble_eq_true rfl, Nat.le_of_ble_eq_true rfl⟩) hP hK 0 4 rfl rfl rfl hl.1 rfl (Nat.le_of_ble_eq_true rfl) dX3_entry_235 ⟨(Nat.zero_le _), (Nat.zero_le _)⟩ (fun r32 hr32 => ?_)
                  replace hr32 := hr32.trans (qCode_cg (t := t) rfl rfl rfl rfl rfl rfl)
                  obtain rfl : r32 = qCode t k := hr32
                  refine mAst11 (ad := ad) hx hb hK hP hD hS (by subst_vars; exact hroom d b2 c14 (Or.inr c27)) dX3_entry_238 (fun H locs hP hD hS => ?_)
                  refine lv_aload_n hx hb dX3_entry_239 rfl (lv_at hl 3 rfl) ?_
                  refine va_get (D := D) (ci := 4) (v := .ref (mH ad 10)) (C := RX3) (T := TX3) (N := 19) hx hb hts iwX3 hown hK hP 0 rfl rfl 14 (by decide) (hts (.fieldLink RX3 49 "ObjectRowsModel" "entries" "[I") (by decide +kernel)) (fun _ h9 => h9) rfl dX3_entry_240 ?_
                  refine lv_iload hx hb dX3_entry_243 (lv_at hl 2 rfl) ?_
                  refine lv_dup2_11 hx hb dX3_entry_245 rfl rfl ?_
                  refine va_iald hx hb hK hP 11 0 rfl rfl ((hv d b2).2.2.2.2.2 c14).1 dX3_entry_246 ?_
                  refine lv_topi (fun y33 ey33 => ?_)
                  obtain rfl : y33 = mEn t (mNu t d) := ey33
                  refine lv_iconst (v := 1) hx hb dX3_entry_247 (by decide) ?_
                  refine lv_iadd hx hb dX3_entry_248 ?_
                  refine lv_topi (fun y34 ey34 => ?_)
                  refine mAst10 (ad := ad) hx hb hK hP hD hS ((hv d b2).2.2.2.2.2 c14).1 dX3_entry_249 (fun H locs hP hD hS => ?_)
                  refine lv_aload_n hx hb dX3_entry_250 rfl (lv_at hl 3 rfl) ?_
                  refine va_get (D := D) (ci := 4) (v := .ref (mH ad 12)) (C := RX3) (T := TX3) (N := 19) hx hb hts iwX3 hown hK hP 0 rfl rfl 16 (by decide) (hts (.fieldLink RX3 56 "ObjectRowsModel" "values" "[I") (by decide +kernel)) (fun _ h9 => h9) rfl dX3_entry_251 ?_
                  refine lv_iload hx hb dX3_entry_254 (lv_at hl 0 rfl) ?_
                  refine lv_iload_n hx hb dX3_entry_256 rfl (lv_at hl 6 rfl) ?_
                  refine mAst12 (ad := ad) hx hb hK hP hD hS (by subst_vars; exact hroom d b2 c14 (Or.inr c27)) dX3_entry_257 (fun H locs hP hD hS => ?_)
                  refine lv_iconst (v := 1) hx hb dX3_entry_258 (by decide) ?_
                  refine W.widen (k := 0) (n := 0) (by omega) (by omega) ?_
                  exact weI (wf := fun u : MS => mW Y ad u) (mUp (mUp (mUpJ (mSetThr t 0) y31 (qCode t k)) 10 (mNu t d) y34) 12 y31 v) hx hb hr hlocks hP hD hS dX3_entry_259 (⟨by first | (subst hr23; subst ey31; subst ey34; simp only [fEntry, fMore, b2, b6, b10, c14, c16, b18, c24, c27, decide_true, decide_false, Bool.not_true, Bool.not_false, Bool.and_true, Bool.true_and, Bool.and_false, Bool.false_and, Bool.or_true, Bool.true_or, Bool.or_false, Bool.false_or, Bool.and_self, Bool.or_self, if_true, if_false, ite_true, ite_false, Bool.false_eq_true, reduceIte, not_true_eq_false, not_false_eq_true, and_true, true_and, and_false, false_and, or_true, true_or, or_false, false_or, and_self, or_self, eq_self, decide_eq_true_eq, Bool.true_eq_false, reduceCtorEq, ne_eq]; done) | (subst hr23; subst ey31; subst ey34; simp [fEntry, fMore, b2, b6, b10, c14, c16, b18, c24, c27, Int32.not_le.mp c24]; done) | (subst hr23; subst ey31; subst ey34; simp only [fEntry, fMore, b2, b6, b10, eq_true c14, eq_true c16, b18, c24, c27, decide_true, decide_false, Bool.not_true, Bool.not_false, Bool.and_true, Bool.true_and, Bool.and_false, Bool.false_and, Bool.or_true, Bool.true_or, Bool.or_false, Bool.false_or, Bool.and_self, Bool.or_self, if_true, if_false, ite_true, ite_false, Bool.false_eq_true, reduceIte, not_true_eq_false, not_false_eq_true, and_true, true_and, and_false, false_and, or_true, true_or, or_false, false_or, and_self, or_self, eq_self, decide_eq_true_eq, Bool.true_eq_false, reduceCtorEq, ne_eq]; done) | (subst hr23; subst ey31; subst ey34; simp [fEntry, fMore, b2, b6, b10, eq_true c14, eq_true c16, b18, c24, c27, Int32.not_le.mp c24]; done), by first | (subst hr23; subst ey31; subst ey34; simp only [fEntry, fMore, b2, b6, b10, c14, c16, b18, c24, c27, decide_true, decide_false, Bool.not_true, Bool.not_false, Bool.and_true, Bool.true_and, Bool.and_false, Bool.false_and, Bool.or_true, Bool.true_or, Bool.or_false, Bool.false_or, Bool.and_self, Bool.or_self, if_true, if_false, ite_true, ite_false, Bool.false_eq_true, reduceIte, not_true_eq_false, not_false_eq_true, and_true, true_and, and_false, false_and, or_true, true_or, or_false, false_or, and_self, or_self, eq_self, decide_eq_true_eq, Bool.true_eq_false, reduceCtorEq, ne_eq]; done) | (subst hr23; subst ey31; subst ey34; simp [fEntry, fMore, b2, b6, b10, c14, c16, b18, c24, c27, Int32.not_le.mp c24]; done) | (subst hr23; subst ey31; subst ey34; simp only [fEntry, fMore, b2, b6, b10, eq_true c14, eq_true c16, b18, c24, c27, decide_true, decide_false, Bool.not_true, Bool.not_false, Bool.and_true, Bool.true_and, Bool.and_false, Bool.false_and, Bool.or_true, Bool.true_or, Bool.or_false, Bool.false_or, Bool.and_self, Bool.or_self, if_true, if_false, ite_true, ite_false, Bool.false_eq_true, reduceIte, not_true_eq_false, not_false_eq_true, and_true, true_and, and_false, false_and, or_true, true_or, or_false, false_or, and_self, or_self, eq_self, decide_eq_true_eq, Bool.true_eq_false, reduceCtorEq, ne_eq]; done) | (subst hr23; subst ey31; subst ey34; simp [fEntry, fMore, b2, b6, b10, eq_true c14, eq_true c16, b18, c24, c27, Int32.not_le.mp c24]; done)⟩)
                · skip
                  refine lv_iconst (v := 1) hx hb dX3_entry_105 (by decide) ?_
                  refine lv_goto (tgt := 110) hx hb dX3_entry_106 (by decide) ?_
                  refine lv_istore (lv' := [(6, .int 1), (5, .int r23), (4, .int (mNu t d)), (0, .ref (mO ad)), (1, .int d), (2, .int k), (3, .int v)]) hx hb dX3_entry_110 hl (by decide) rfl (fun ls hl => ?_)
                  refine lv_iload hx hb dX3_entry_112 (lv_at hl 0 rfl) ?_
                  refine lv_if_eq (tgt := 142) hx hb dX3_entry_114 (by decide) (fun c35 => absurd c35 (by decide)) (fun _ => ?_)
                  refine lv_aload_n hx hb dX3_entry_117 rfl (lv_at hl 3 rfl) ?_
                  refine va_get (D := D) (ci := 4) (v := .ref (mH ad 9)) (C := RX3) (T := TX3) (N := 19) hx hb hts iwX3 hown hK hP 0 rfl rfl 13 (by decide) (hts (.fieldLink RX3 46 "ObjectRowsModel" "grows" "[Z") (by decide +kernel)) (fun _ h9 => h9) rfl dX3_entry_118 ?_
                  refine lv_iload hx hb dX3_entry_121 (lv_at hl 2 rfl) ?_
                  refine va_zald hx hb hK hP 10 2 rfl rfl ((hv d b2).2.2.2.2.2 c14).1 dX3_entry_123 ?_
                  refine lv_topi (fun y36 ey36 => ?_)
                  obtain rfl : y36 = mGr t (mNu t d) := ey36
                  refine lv_if_eq (tgt := 139) hx hb dX3_entry_124 (by decide) (fun c37 => ?_) (fun c37 => ?_)
                  · skip
                    refine lv_bipush (v := (-4)) hx hb dX3_entry_139 (by decide) ?_
                    refine W.widen (k := 0) (n := 0) (by omega) (by omega) ?_
                    exact weI (wf := fun u : MS => mW Y ad u) (mSetThr t 0) hx hb hr hlocks hP hD hS dX3_entry_141 (⟨by first | (subst hr23; simp only [fEntry, fMore, b2, b6, b10, c14, c16, b18, c24, eq_true c27, c37, decide_true, decide_false, Bool.not_true, Bool.not_false, Bool.and_true, Bool.true_and, Bool.and_false, Bool.false_and, Bool.or_true, Bool.true_or, Bool.or_false, Bool.false_or, Bool.and_self, Bool.or_self, if_true, if_false, ite_true, ite_false, Bool.false_eq_true, reduceIte, not_true_eq_false, not_false_eq_true, and_true, true_and, and_false, false_and, or_true, true_or, or_false, false_or, and_self, or_self, eq_self, decide_eq_true_eq, Bool.true_eq_false, reduceCtorEq, ne_eq]; done) | (subst hr23; simp [fEntry, fMore, b2, b6, b10, c14, c16, b18, c24, eq_true c27, c37, Int32.not_le.mp c24]; done) | (subst hr23; simp only [fEntry, fMore, b2, b6, b10, eq_true c14, eq_true c16, b18, c24, eq_true c27, eq_true c37, decide_true, decide_false, Bool.not_true, Bool.not_false, Bool.and_true, Bool.true_and, Bool.and_false, Bool.false_and, Bool.or_true, Bool.true_or, Bool.or_false, Bool.false_or, Bool.and_self, Bool.or_self, if_true, if_false, ite_true, ite_false, Bool.false_eq_true, reduceIte, not_true_eq_false, not_false_eq_true, and_true, true_and, and_false, false_and, or_true, true_or, or_false, false_or, and_self, or_self, eq_self, decide_eq_true_eq, Bool.true_eq_false, reduceCtorEq, ne_eq]; done) | (subst hr23; simp [fEntry, fMore, b2, b6, b10, eq_true c14, eq_true c16, b18, c24, eq_true c27, eq_true c37, Int32.not_le.mp c24]; done), by first | (subst hr23; simp only [fEntry, fMore, b2, b6, b10, c14, c16, b18, c24, eq_true c27, c37, decide_true, decide_false, Bool.not_true, Bool.not_false, Bool.and_true, Bool.true_and, Bool.and_false, Bool.false_and, Bool.or_true, Bool.true_or, Bool.or_false, Bool.false_or, Bool.and_self, Bool.or_self, if_true, if_false, ite_true, ite_false, Bool.false_eq_true, reduceIte, not_true_eq_false, not_false_eq_true, and_true, true_and, and_false, false_and, or_true, true_or, or_false, false_or, and_self, or_self, eq_self, decide_eq_true_eq, Bool.true_eq_false, reduceCtorEq, ne_eq]; done) | (subst hr23; simp [fEntry, fMore, b2, b6, b10, c14, c16, b18, c24, eq_true c27, c37, Int32.not_le.mp c24]; done) | (subst hr23; simp only [fEntry, fMore, b2, b6, b10, eq_true c14, eq_true c16, b18, c24, eq_true c27, eq_true c37, decide_true, decide_false, Bool.not_true, Bool.not_false, Bool.and_true, Bool.true_and, Bool.and_false, Bool.false_and, Bool.or_true, Bool.true_or, Bool.or_false, Bool.false_or, Bool.and_self, Bool.or_self, if_true, if_false, ite_true, ite_false, Bool.false_eq_true, reduceIte, not_true_eq_false, not_false_eq_true, and_true, true_and, and_false, false_and, or_true, true_or, or_false, false_or, and_self, or_self, eq_self, decide_eq_true_eq, Bool.true_eq_false, reduceCtorEq, ne_eq]; done) | (subst hr23; simp [fEntry, fMore, b2, b6, b10, eq_true c14, eq_true c16, b18, c24, eq_true c27, eq_true c37, Int32.not_le.mp c24]; done)⟩)
                  · skip
                    refine lv_aload_n hx hb dX3_entry_127 rfl (lv_at hl 3 rfl) ?_
                    refine va_get (D := D) (ci := 4) (v := .ref (mH ad 10)) (C := RX3) (T := TX3) (N := 19) hx hb hts iwX3 hown hK hP 0 rfl rfl 14 (by decide) (hts (.fieldLink RX3 49 "ObjectRowsModel" "entries" "[I") (by decide +kernel)) (fun _ h9 => h9) rfl dX3_entry_128 ?_
                    refine lv_iload hx hb dX3_entry_131 (lv_at hl 2 rfl) ?_
                    refine va_iald hx hb hK hP 11 0 rfl rfl ((hv d b2).2.2.2.2.2 c14).1 dX3_entry_133 ?_
                    refine lv_topi (fun y38 ey38 => ?_)
                    obtain rfl : y38 = mEn t (mNu t d) := ey38
                    refine lv_bipush (v := 32) hx hb dX3_entry_134 (by decide) ?_
                    refine lv_icmp_ne (tgt := 142) hx hb dX3_entry_136 (by decide) (fun c39 => ?_) (fun c39 => ?_)
                    · skip
                      refine lv_iload hx hb dX3_entry_142 (lv_at hl 0 rfl) ?_
                      refine lv_if_eq (tgt := 212) hx hb dX3_entry_144 (by decide) (fun c40 => absurd c40 (by decide)) (fun _ => ?_)
                      refine lv_iconst (v := 2) hx hb dX3_entry_147 (by decide) ?_
                      refine lv_aload_n hx hb dX3_entry_148 rfl (lv_at hl 3 rfl) ?_
                      refine va_get (D := D) (ci := 4) (v := .ref (mH ad 8)) (C := RX3) (T := TX3) (N := 19) hx hb hts iwX3 hown hK hP 0 rfl rfl 12 (by decide) (hts (.fieldLink RX3 43 "ObjectRowsModel" "capacities" "[I") (by decide +kernel)) (fun _ h9 => h9) rfl dX3_entry_149 ?_
                      refine lv_iload hx hb dX3_entry_152 (lv_at hl 2 rfl) ?_
                      refine va_iald hx hb hK hP 9 0 rfl rfl ((hv d b2).2.2.2.2.2 c14).1 dX3_entry_154 ?_
                      refine lv_topi (fun y41 ey41 => ?_)
                      obtain rfl : y41 = mCp t (mNu t d) := ey41
                      refine lv_imul hx hb dX3_entry_155 ?_
                      refine lv_iconst (v := 1) hx hb dX3_entry_156 (by decide) ?_
                      refine lv_iadd hx hb dX3_entry_157 ?_
                      refine lv_bipush (v := 32) hx hb dX3_entry_158 (by decide) ?_
                      refine lv_icmp_le (tgt := 168) hx hb dX3_entry_160 (by decide) (fun c42 => ?_) (fun c42 => ?_)
                      · skip
                        refine lv_iconst (v := 2) hx hb dX3_entry_168 (by decide) ?_
                        refine lv_aload_n hx hb dX3_entry_169 rfl (lv_at hl 3 rfl) ?_
                        refine va_get (D := D) (ci := 4) (v := .ref (mH ad 8)) (C := RX3) (T := TX3) (N := 19) hx hb hts iwX3 hown hK hP 0 rfl rfl 12 (by decide) (hts (.fieldLink RX3 43 "ObjectRowsModel" "capacities" "[I") (by decide +kernel)) (fun _ h9 => h9) rfl dX3_entry_170 ?_
                        refine lv_iload hx hb dX3_entry_173 (lv_at hl 2 rfl) ?_
                        refine va_iald hx hb hK hP 9 0 rfl rfl ((hv d b2).2.2.2.2.2 c14).1 dX3_entry_175 ?_
                        refine lv_topi (fun y43 ey43 => ?_)
                        obtain rfl : y43 = mCp t (mNu t d) := ey43
                        refine lv_imul hx hb dX3_entry_176 ?_
                        refine lv_iconst (v := 1) hx hb dX3_entry_177 (by decide) ?_
                        refine lv_iadd hx hb dX3_entry_178 ?_
                        refine lv_topi (fun y44 ey44 => ?_)
                        refine lv_istore (lv' := [(7, .int y44), (6, .int 1), (5, .int r23), (4, .int (mNu t d)), (0, .ref (mO ad)), (1, .int d), (2, .int k), (3, .int v)]) hx hb dX3_entry_179 hl (by decide) rfl (fun ls hl => ?_)
                        refine lv_aload_n hx hb dX3_entry_181 rfl (lv_at hl 4 rfl) ?_
                        refine lv_dup hx hb dX3_entry_182 rfl ?_
                        refine va_get (D := D) (ci := 4) (v := .int (mUsed t)) (C := RX3) (T := TX3) (N := 19) hx hb hts iwX3 hown hK hP 0 rfl rfl 2 (by decide) (hts (.fieldLink RX3 13 "ObjectRowsModel" "used" "I") (by decide +kernel)) (fun _ h9 => h9) rfl dX3_entry_183 ?_
                        refine lv_bipush (v := 16) hx hb dX3_entry_186 (by decide) ?_
                        refine lv_iload hx hb dX3_entry_188 (lv_at hl 0 rfl) ?_
                        refine lv_aload_n hx hb dX3_entry_190 rfl (lv_at hl 4 rfl) ?_
                        refine va_get (D := D) (ci := 4) (v := .ref (mH ad 8)) (C := RX3) (T := TX3) (N := 19) hx hb hts iwX3 hown hK hP 0 rfl rfl 12 (by decide) (hts (.fieldLink RX3 43 "ObjectRowsModel" "capacities" "[I") (by decide +kernel)) (fun _ h9 => h9) rfl dX3_entry_191 ?_
                        refine lv_iload hx hb dX3_entry_194 (lv_at hl 3 rfl) ?_
                        refine va_iald hx hb hK hP 9 0 rfl rfl ((hv d b2).2.2.2.2.2 c14).1 dX3_entry_196 ?_
                        refine lv_topi (fun y45 ey45 => ?_)
                        obtain rfl : y45 = mCp t (mNu t d) := ey45
                        refine lv_isub hx hb dX3_entry_197 ?_
                        refine lv_imul hx hb dX3_entry_198 ?_
                        refine lv_iadd hx hb dX3_entry_199 ?_
                        refine mFput2 (ad := ad) hx hb hts iwX3 hown hK hP hD hS (hts (.fieldLink RX3 13 "ObjectRowsModel" "used" "I") (by decide +kernel)) dX3_entry_200 (fun H locs hP hD hS => ?_)
                        refine lv_aload_n hx hb dX3_entry_203 rfl (lv_at hl 4 rfl) ?_
                        refine va_get (D := D) (ci := 4) (v := .ref (mH ad 8)) (C := RX3) (T := TX3) (N := 19) hx hb hts iwX3 hown hK hP 0 rfl rfl 12 (by decide) (hts (.fieldLink RX3 43 "ObjectRowsModel" "capacities" "[I") (by decide +kernel)) (fun _ h9 => h9) rfl dX3_entry_204 ?_
                        refine lv_iload hx hb dX3_entry_207 (lv_at hl 3 rfl) ?_
                        refine lv_iload hx hb dX3_entry_209 (lv_at hl 0 rfl) ?_
                        refine mAst8 (ad := ad) hx hb hK hP hD hS ((hv d b2).2.2.2.2.2 c14).1 dX3_entry_211 (fun H locs hP hD hS => ?_)
                        refine lv_bipush (v := 32) hx hb dX3_entry_212 (by decide) ?_
                        refine lv_iload hx hb dX3_entry_214 (lv_at hl 3 rfl) ?_
                        refine lv_imul hx hb dX3_entry_216 ?_
                        refine lv_aload_n hx hb dX3_entry_217 rfl (lv_at hl 4 rfl) ?_
                        refine va_get (D := D) (ci := 4) (v := .ref (mH ad 10)) (C := RX3) (T := TX3) (N := 19) hx hb hts iwX3 hown hK hP 0 rfl rfl 14 (by decide) (hts (.fieldLink RX3 49 "ObjectRowsModel" "entries" "[I") (by decide +kernel)) (fun _ h9 => h9) rfl dX3_entry_218 ?_
                        refine lv_iload hx hb dX3_entry_221 (lv_at hl 3 rfl) ?_
                        refine va_iald hx hb hK hP 11 0 rfl rfl ((hv d b2).2.2.2.2.2 c14).1 dX3_entry_223 ?_
                        refine lv_topi (fun y46 ey46 => ?_)
                        obtain rfl : y46 = mEn t (mNu t d) := ey46
                        refine lv_iadd hx hb dX3_entry_224 ?_
                        refine lv_topi (fun y47 ey47 => ?_)
                        refine lv_istore (lv' := [(5, .int y47), (7, .int y44), (6, .int 1), (4, .int (mNu t d)), (0, .ref (mO ad)), (1, .int d), (2, .int k), (3, .int v)]) hx hb dX3_entry_225 hl (by decide) rfl (fun ls hl => ?_)
                        refine lv_aload_n hx hb dX3_entry_227 rfl (lv_at hl 4 rfl) ?_
                        refine va_get (D := D) (ci := 4) (v := .ref (mH ad 11)) (C := RX3) (T := TX3) (N := 19) hx hb hts iwX3 hown hK hP 0 rfl rfl 15 (by decide) (hts (.fieldLink RX3 52 "ObjectRowsModel" "keys" "[J") (by decide +kernel)) (fun _ h9 => h9) rfl dX3_entry_228 ?_
                        refine lv_iload hx hb dX3_entry_231 (lv_at hl 0 rfl) ?_
                        refine lv_aload_n hx hb dX3_entry_233 rfl (lv_at hl 4 rfl) ?_
                        refine lv_iload_n hx hb dX3_entry_234 rfl (lv_at hl 6 rfl) ?_
                        refine rcL (As := [.int k]) (rest := [.int y47, .ref (mH ad 11)]) ⟨hx, hb, hml, hown, hts⟩ (c_X3_code l D Y ad (mUp (mSetUsed (mSetThr t 0) ((mUsed t) + (16 * (y44 - (mCp t (mNu t d)))))) 8 (mNu t d) y44) k (hv k b6).1 (hv k b6).2.1 (hv k b6).2.2.1) (cwV 1 hts gX3_entry_X3_code rfl rfl rfl hdX3_code ⟨Nat.le_of_ble_eq_true rfl, Nat.le_of_ble_eq_true rfl⟩) hP hK 0 4 rfl rfl rfl hl.1 rfl (Nat.le_of_ble_eq_true rfl) dX3_entry_235 ⟨(Nat.zero_le _), (Nat.zero_le _)⟩ (fun r48 hr48 => ?_)
                        replace hr48 := hr48.trans (qCode_cg (t := t) rfl rfl rfl rfl rfl rfl)
                        obtain rfl : r48 = qCode t k := hr48
                        refine mAst11 (ad := ad) hx hb hK hP hD hS (by subst_vars; exact hroom d b2 c14 (Or.inl c39)) dX3_entry_238 (fun H locs hP hD hS => ?_)
                        refine lv_aload_n hx hb dX3_entry_239 rfl (lv_at hl 4 rfl) ?_
                        refine va_get (D := D) (ci := 4) (v := .ref (mH ad 10)) (C := RX3) (T := TX3) (N := 19) hx hb hts iwX3 hown hK hP 0 rfl rfl 14 (by decide) (hts (.fieldLink RX3 49 "ObjectRowsModel" "entries" "[I") (by decide +kernel)) (fun _ h9 => h9) rfl dX3_entry_240 ?_
                        refine lv_iload hx hb dX3_entry_243 (lv_at hl 3 rfl) ?_
                        refine lv_dup2_11 hx hb dX3_entry_245 rfl rfl ?_
                        refine va_iald hx hb hK hP 11 0 rfl rfl ((hv d b2).2.2.2.2.2 c14).1 dX3_entry_246 ?_
                        refine lv_topi (fun y49 ey49 => ?_)
                        obtain rfl : y49 = mEn t (mNu t d) := ey49
                        refine lv_iconst (v := 1) hx hb dX3_entry_247 (by decide) ?_
                        refine lv_iadd hx hb dX3_entry_248 ?_
                        refine lv_topi (fun y50 ey50 => ?_)
                        refine mAst10 (ad := ad) hx hb hK hP hD hS ((hv d b2).2.2.2.2.2 c14).1 dX3_entry_249 (fun H locs hP hD hS => ?_)
                        refine lv_aload_n hx hb dX3_entry_250 rfl (lv_at hl 4 rfl) ?_
                        refine va_get (D := D) (ci := 4) (v := .ref (mH ad 12)) (C := RX3) (T := TX3) (N := 19) hx hb hts iwX3 hown hK hP 0 rfl rfl 16 (by decide) (hts (.fieldLink RX3 56 "ObjectRowsModel" "values" "[I") (by decide +kernel)) (fun _ h9 => h9) rfl dX3_entry_251 ?_
                        refine lv_iload hx hb dX3_entry_254 (lv_at hl 0 rfl) ?_
                        refine lv_iload_n hx hb dX3_entry_256 rfl (lv_at hl 7 rfl) ?_
                        refine mAst12 (ad := ad) hx hb hK hP hD hS (by subst_vars; exact hroom d b2 c14 (Or.inl c39)) dX3_entry_257 (fun H locs hP hD hS => ?_)
                        refine lv_iconst (v := 1) hx hb dX3_entry_258 (by decide) ?_
                        refine W.widen (k := 0) (n := 0) (by omega) (by omega) ?_
                        exact weI (wf := fun u : MS => mW Y ad u) (mUp (mUp (mUpJ (mUp (mSetUsed (mSetThr t 0) ((mUsed t) + (16 * (y44 - (mCp t (mNu t d)))))) 8 (mNu t d) y44) y47 (qCode t k)) 10 (mNu t d) y50) 12 y47 v) hx hb hr hlocks hP hD hS dX3_entry_259 (⟨by first | (subst hr23; subst ey44; subst ey47; subst ey50; simp only [fEntry, fMore, b2, b6, b10, c14, c16, b18, c24, eq_true c27, c37, c39, c42, decide_true, decide_false, Bool.not_true, Bool.not_false, Bool.and_true, Bool.true_and, Bool.and_false, Bool.false_and, Bool.or_true, Bool.true_or, Bool.or_false, Bool.false_or, Bool.and_self, Bool.or_self, if_true, if_false, ite_true, ite_false, Bool.false_eq_true, reduceIte, not_true_eq_false, not_false_eq_true, and_true, true_and, and_false, false_and, or_true, true_or, or_false, false_or, and_self, or_self, eq_self, decide_eq_true_eq, Bool.true_eq_false, reduceCtorEq, ne_eq]; done) | (subst hr23; subst ey44; subst ey47; subst ey50; simp [fEntry, fMore, b2, b6, b10, c14, c16, b18, c24, eq_true c27, c37, c39, c42, Int32.not_le.mp c24, Int32.not_lt.mpr c42]; done) | (subst hr23; subst ey44; subst ey47; subst ey50; simp only [fEntry, fMore, b2, b6, b10, eq_true c14, eq_true c16, b18, c24, eq_true c27, c37, c39, c42, decide_true, decide_false, Bool.not_true, Bool.not_false, Bool.and_true, Bool.true_and, Bool.and_false, Bool.false_and, Bool.or_true, Bool.true_or, Bool.or_false, Bool.false_or, Bool.and_self, Bool.or_self, if_true, if_false, ite_true, ite_false, Bool.false_eq_true, reduceIte, not_true_eq_false, not_false_eq_true, and_true, true_and, and_false, false_and, or_true, true_or, or_false, false_or, and_self, or_self, eq_self, decide_eq_true_eq, Bool.true_eq_false, reduceCtorEq, ne_eq]; done) | (subst hr23; subst ey44; subst ey47; subst ey50; simp [fEntry, fMore, b2, b6, b10, eq_true c14, eq_true c16, b18, c24, eq_true c27, c37, c39, c42, Int32.not_le.mp c24, Int32.not_lt.mpr c42]; done), by first | (subst hr23; subst ey44; subst ey47; subst ey50; simp only [fEntry, fMore, b2, b6, b10, c14, c16, b18, c24, eq_true c27, c37, c39, c42, decide_true, decide_false, Bool.not_true, Bool.not_false, Bool.and_true, Bool.true_and, Bool.and_false, Bool.false_and, Bool.or_true, Bool.true_or, Bool.or_false, Bool.false_or, Bool.and_self, Bool.or_self, if_true, if_false, ite_true, ite_false, Bool.false_eq_true, reduceIte, not_true_eq_false, not_false_eq_true, and_true, true_and, and_false, false_and, or_true, true_or, or_false, false_or, and_self, or_self, eq_self, decide_eq_true_eq, Bool.true_eq_false, reduceCtorEq, ne_eq]; done) | (subst hr23; subst ey44; subst ey47; subst ey50; simp [fEntry, fMore, b2, b6, b10, c14, c16, b18, c24, eq_true c27, c37, c39, c42, Int32.not_le.mp c24, Int32.not_lt.mpr c42]; done) | (subst hr23; subst ey44; subst ey47; subst ey50; simp only [fEntry, fMore, b2, b6, b10, eq_true c14, eq_true c16, b18, c24, eq_true c27, c37, c39, c42, decide_true, decide_false, Bool.not_true, Bool.not_false, Bool.and_true, Bool.true_and, Bool.and_false, Bool.false_and, Bool.or_true, Bool.true_or, Bool.or_false, Bool.false_or, Bool.and_self, Bool.or_self, if_true, if_false, ite_true, ite_false, Bool.false_eq_true, reduceIte, not_true_eq_false, not_false_eq_true, and_true, true_and, and_false, false_and, or_true, true_or, or_false, false_or, and_self, or_self, eq_self, decide_eq_true_eq, Bool.true_eq_false, reduceCtorEq, ne_eq]; done) | (subst hr23; subst ey44; subst ey47; subst ey50; simp [fEntry, fMore, b2, b6, b10, eq_true c14, eq_true c16, b18, c24, eq_true c27, c37, c39, c42, Int32.not_le.mp c24, Int32.not_lt.mpr c42]; done)⟩)
                      · skip
                        refine lv_bipush (v := 32) hx hb dX3_entry_163 (by decide) ?_
                        refine lv_goto (tgt := 179) hx hb dX3_entry_165 (by decide) ?_
                        refine lv_topi (fun y51 ey51 => ?_)
                        refine lv_istore (lv' := [(7, .int y51), (6, .int 1), (5, .int r23), (4, .int (mNu t d)), (0, .ref (mO ad)), (1, .int d), (2, .int k), (3, .int v)]) hx hb dX3_entry_179 hl (by decide) rfl (fun ls hl => ?_)
                        refine lv_aload_n hx hb dX3_entry_181 rfl (lv_at hl 4 rfl) ?_
                        refine lv_dup hx hb dX3_entry_182 rfl ?_
                        refine va_get (D := D) (ci := 4) (v := .int (mUsed t)) (C := RX3) (T := TX3) (N := 19) hx hb hts iwX3 hown hK hP 0 rfl rfl 2 (by decide) (hts (.fieldLink RX3 13 "ObjectRowsModel" "used" "I") (by decide +kernel)) (fun _ h9 => h9) rfl dX3_entry_183 ?_
                        refine lv_bipush (v := 16) hx hb dX3_entry_186 (by decide) ?_
                        refine lv_iload hx hb dX3_entry_188 (lv_at hl 0 rfl) ?_
                        refine lv_aload_n hx hb dX3_entry_190 rfl (lv_at hl 4 rfl) ?_
                        refine va_get (D := D) (ci := 4) (v := .ref (mH ad 8)) (C := RX3) (T := TX3) (N := 19) hx hb hts iwX3 hown hK hP 0 rfl rfl 12 (by decide) (hts (.fieldLink RX3 43 "ObjectRowsModel" "capacities" "[I") (by decide +kernel)) (fun _ h9 => h9) rfl dX3_entry_191 ?_
                        refine lv_iload hx hb dX3_entry_194 (lv_at hl 3 rfl) ?_
                        refine va_iald hx hb hK hP 9 0 rfl rfl ((hv d b2).2.2.2.2.2 c14).1 dX3_entry_196 ?_
                        refine lv_topi (fun y52 ey52 => ?_)
                        obtain rfl : y52 = mCp t (mNu t d) := ey52
                        refine lv_isub hx hb dX3_entry_197 ?_
                        refine lv_imul hx hb dX3_entry_198 ?_
                        refine lv_iadd hx hb dX3_entry_199 ?_
                        refine mFput2 (ad := ad) hx hb hts iwX3 hown hK hP hD hS (hts (.fieldLink RX3 13 "ObjectRowsModel" "used" "I") (by decide +kernel)) dX3_entry_200 (fun H locs hP hD hS => ?_)
                        refine lv_aload_n hx hb dX3_entry_203 rfl (lv_at hl 4 rfl) ?_
                        refine va_get (D := D) (ci := 4) (v := .ref (mH ad 8)) (C := RX3) (T := TX3) (N := 19) hx hb hts iwX3 hown hK hP 0 rfl rfl 12 (by decide) (hts (.fieldLink RX3 43 "ObjectRowsModel" "capacities" "[I") (by decide +kernel)) (fun _ h9 => h9) rfl dX3_entry_204 ?_
                        refine lv_iload hx hb dX3_entry_207 (lv_at hl 3 rfl) ?_
                        refine lv_iload hx hb dX3_entry_209 (lv_at hl 0 rfl) ?_
                        refine mAst8 (ad := ad) hx hb hK hP hD hS ((hv d b2).2.2.2.2.2 c14).1 dX3_entry_211 (fun H locs hP hD hS => ?_)
                        refine lv_bipush (v := 32) hx hb dX3_entry_212 (by decide) ?_
                        refine lv_iload hx hb dX3_entry_214 (lv_at hl 3 rfl) ?_
                        refine lv_imul hx hb dX3_entry_216 ?_
                        refine lv_aload_n hx hb dX3_entry_217 rfl (lv_at hl 4 rfl) ?_
                        refine va_get (D := D) (ci := 4) (v := .ref (mH ad 10)) (C := RX3) (T := TX3) (N := 19) hx hb hts iwX3 hown hK hP 0 rfl rfl 14 (by decide) (hts (.fieldLink RX3 49 "ObjectRowsModel" "entries" "[I") (by decide +kernel)) (fun _ h9 => h9) rfl dX3_entry_218 ?_
                        refine lv_iload hx hb dX3_entry_221 (lv_at hl 3 rfl) ?_
                        refine va_iald hx hb hK hP 11 0 rfl rfl ((hv d b2).2.2.2.2.2 c14).1 dX3_entry_223 ?_
                        refine lv_topi (fun y53 ey53 => ?_)
                        obtain rfl : y53 = mEn t (mNu t d) := ey53
                        refine lv_iadd hx hb dX3_entry_224 ?_
                        refine lv_topi (fun y54 ey54 => ?_)
                        refine lv_istore (lv' := [(5, .int y54), (7, .int y51), (6, .int 1), (4, .int (mNu t d)), (0, .ref (mO ad)), (1, .int d), (2, .int k), (3, .int v)]) hx hb dX3_entry_225 hl (by decide) rfl (fun ls hl => ?_)
                        refine lv_aload_n hx hb dX3_entry_227 rfl (lv_at hl 4 rfl) ?_
                        refine va_get (D := D) (ci := 4) (v := .ref (mH ad 11)) (C := RX3) (T := TX3) (N := 19) hx hb hts iwX3 hown hK hP 0 rfl rfl 15 (by decide) (hts (.fieldLink RX3 52 "ObjectRowsModel" "keys" "[J") (by decide +kernel)) (fun _ h9 => h9) rfl dX3_entry_228 ?_
                        refine lv_iload hx hb dX3_entry_231 (lv_at hl 0 rfl) ?_
                        refine lv_aload_n hx hb dX3_entry_233 rfl (lv_at hl 4 rfl) ?_
                        refine lv_iload_n hx hb dX3_entry_234 rfl (lv_at hl 6 rfl) ?_
                        refine rcL (As := [.int k]) (rest := [.int y54, .ref (mH ad 11)]) ⟨hx, hb, hml, hown, hts⟩ (c_X3_code l D Y ad (mUp (mSetUsed (mSetThr t 0) ((mUsed t) + (16 * (y51 - (mCp t (mNu t d)))))) 8 (mNu t d) y51) k (hv k b6).1 (hv k b6).2.1 (hv k b6).2.2.1) (cwV 1 hts gX3_entry_X3_code rfl rfl rfl hdX3_code ⟨Nat.le_of_ble_eq_true rfl, Nat.le_of_ble_eq_true rfl⟩) hP hK 0 4 rfl rfl rfl hl.1 rfl (Nat.le_of_ble_eq_true rfl) dX3_entry_235 ⟨(Nat.zero_le _), (Nat.zero_le _)⟩ (fun r55 hr55 => ?_)
                        replace hr55 := hr55.trans (qCode_cg (t := t) rfl rfl rfl rfl rfl rfl)
                        obtain rfl : r55 = qCode t k := hr55
                        refine mAst11 (ad := ad) hx hb hK hP hD hS (by subst_vars; exact hroom d b2 c14 (Or.inl c39)) dX3_entry_238 (fun H locs hP hD hS => ?_)
                        refine lv_aload_n hx hb dX3_entry_239 rfl (lv_at hl 4 rfl) ?_
                        refine va_get (D := D) (ci := 4) (v := .ref (mH ad 10)) (C := RX3) (T := TX3) (N := 19) hx hb hts iwX3 hown hK hP 0 rfl rfl 14 (by decide) (hts (.fieldLink RX3 49 "ObjectRowsModel" "entries" "[I") (by decide +kernel)) (fun _ h9 => h9) rfl dX3_entry_240 ?_
                        refine lv_iload hx hb dX3_entry_243 (lv_at hl 3 rfl) ?_
                        refine lv_dup2_11 hx hb dX3_entry_245 rfl rfl ?_
                        refine va_iald hx hb hK hP 11 0 rfl rfl ((hv d b2).2.2.2.2.2 c14).1 dX3_entry_246 ?_
                        refine lv_topi (fun y56 ey56 => ?_)
                        obtain rfl : y56 = mEn t (mNu t d) := ey56
                        refine lv_iconst (v := 1) hx hb dX3_entry_247 (by decide) ?_
                        refine lv_iadd hx hb dX3_entry_248 ?_
                        refine lv_topi (fun y57 ey57 => ?_)
                        refine mAst10 (ad := ad) hx hb hK hP hD hS ((hv d b2).2.2.2.2.2 c14).1 dX3_entry_249 (fun H locs hP hD hS => ?_)
                        refine lv_aload_n hx hb dX3_entry_250 rfl (lv_at hl 4 rfl) ?_
                        refine va_get (D := D) (ci := 4) (v := .ref (mH ad 12)) (C := RX3) (T := TX3) (N := 19) hx hb hts iwX3 hown hK hP 0 rfl rfl 16 (by decide) (hts (.fieldLink RX3 56 "ObjectRowsModel" "values" "[I") (by decide +kernel)) (fun _ h9 => h9) rfl dX3_entry_251 ?_
                        refine lv_iload hx hb dX3_entry_254 (lv_at hl 0 rfl) ?_
                        refine lv_iload_n hx hb dX3_entry_256 rfl (lv_at hl 7 rfl) ?_
                        refine mAst12 (ad := ad) hx hb hK hP hD hS (by subst_vars; exact hroom d b2 c14 (Or.inl c39)) dX3_entry_257 (fun H locs hP hD hS => ?_)
                        refine lv_iconst (v := 1) hx hb dX3_entry_258 (by decide) ?_
                        refine W.widen (k := 0) (n := 0) (by omega) (by omega) ?_
                        exact weI (wf := fun u : MS => mW Y ad u) (mUp (mUp (mUpJ (mUp (mSetUsed (mSetThr t 0) ((mUsed t) + (16 * (y51 - (mCp t (mNu t d)))))) 8 (mNu t d) y51) y54 (qCode t k)) 10 (mNu t d) y57) 12 y54 v) hx hb hr hlocks hP hD hS dX3_entry_259 (⟨by first | (subst hr23; subst ey51; subst ey54; subst ey57; simp only [fEntry, fMore, b2, b6, b10, c14, c16, b18, c24, eq_true c27, c37, c39, c42, decide_true, decide_false, Bool.not_true, Bool.not_false, Bool.and_true, Bool.true_and, Bool.and_false, Bool.false_and, Bool.or_true, Bool.true_or, Bool.or_false, Bool.false_or, Bool.and_self, Bool.or_self, if_true, if_false, ite_true, ite_false, Bool.false_eq_true, reduceIte, not_true_eq_false, not_false_eq_true, and_true, true_and, and_false, false_and, or_true, true_or, or_false, false_or, and_self, or_self, eq_self, decide_eq_true_eq, Bool.true_eq_false, reduceCtorEq, ne_eq]; done) | (subst hr23; subst ey51; subst ey54; subst ey57; simp [fEntry, fMore, b2, b6, b10, c14, c16, b18, c24, eq_true c27, c37, c39, c42, Int32.not_le.mp c24, Int32.not_le.mp c42]; done) | (subst hr23; subst ey51; subst ey54; subst ey57; simp only [fEntry, fMore, b2, b6, b10, eq_true c14, eq_true c16, b18, c24, eq_true c27, c37, c39, c42, decide_true, decide_false, Bool.not_true, Bool.not_false, Bool.and_true, Bool.true_and, Bool.and_false, Bool.false_and, Bool.or_true, Bool.true_or, Bool.or_false, Bool.false_or, Bool.and_self, Bool.or_self, if_true, if_false, ite_true, ite_false, Bool.false_eq_true, reduceIte, not_true_eq_false, not_false_eq_true, and_true, true_and, and_false, false_and, or_true, true_or, or_false, false_or, and_self, or_self, eq_self, decide_eq_true_eq, Bool.true_eq_false, reduceCtorEq, ne_eq]; done) | (subst hr23; subst ey51; subst ey54; subst ey57; simp [fEntry, fMore, b2, b6, b10, eq_true c14, eq_true c16, b18, c24, eq_true c27, c37, c39, c42, Int32.not_le.mp c24, Int32.not_le.mp c42]; done), by first | (subst hr23; subst ey51; subst ey54; subst ey57; simp only [fEntry, fMore, b2, b6, b10, c14, c16, b18, c24, eq_true c27, c37, c39, c42, decide_true, decide_false, Bool.not_true, Bool.not_false, Bool.and_true, Bool.true_and, Bool.and_false, Bool.false_and, Bool.or_true, Bool.true_or, Bool.or_false, Bool.false_or, Bool.and_self, Bool.or_self, if_true, if_false, ite_true, ite_false, Bool.false_eq_true, reduceIte, not_true_eq_false, not_false_eq_true, and_true, true_and, and_false, false_and, or_true, true_or, or_false, false_or, and_self, or_self, eq_self, decide_eq_true_eq, Bool.true_eq_false, reduceCtorEq, ne_eq]; done) | (subst hr23; subst ey51; subst ey54; subst ey57; simp [fEntry, fMore, b2, b6, b10, c14, c16, b18, c24, eq_true c27, c37, c39, c42, Int32.not_le.mp c24, Int32.not_le.mp c42]; done) | (subst hr23; subst ey51; subst ey54; subst ey57; simp only [fEntry, fMore, b2, b6, b10, eq_true c14, eq_true c16, b18, c24, eq_true c27, c37, c39, c42, decide_true, decide_false, Bool.not_true, Bool.not_false, Bool.and_true, Bool.true_and, Bool.and_false, Bool.false_and, Bool.or_true, Bool.true_or, Bool.or_false, Bool.false_or, Bool.and_self, Bool.or_self, if_true, if_false, ite_true, ite_false, Bool.false_eq_true, reduceIte, not_true_eq_false, not_false_eq_true, and_true, true_and, and_false, false_and, or_true, true_or, or_false, false_or, and_self, or_self, eq_self, decide_eq_true_eq, Bool.true_eq_false, reduceCtorEq, ne_eq]; done) | (subst hr23; subst ey51; subst ey54; subst ey57; simp [fEntry, fMore, b2, b6, b10, eq_true c14, eq_true c16, b18, c24, eq_true c27, c37, c39, c42, Int32.not_le.mp c24, Int32.not_le.mp c42]; done)⟩)
                    · skip
                      refine lv_bipush (v := (-4)) hx hb dX3_entry_139 (by decide) ?_
                      refine W.widen (k := 0) (n := 0) (by omega) (by omega) ?_
                      exact weI (wf := fun u : MS => mW Y ad u) (mSetThr t 0) hx hb hr hlocks hP hD hS dX3_entry_141 (⟨by first | (subst hr23; simp only [fEntry, fMore, b2, b6, b10, c14, c16, b18, c24, eq_true c27, c37, c39, decide_true, decide_false, Bool.not_true, Bool.not_false, Bool.and_true, Bool.true_and, Bool.and_false, Bool.false_and, Bool.or_true, Bool.true_or, Bool.or_false, Bool.false_or, Bool.and_self, Bool.or_self, if_true, if_false, ite_true, ite_false, Bool.false_eq_true, reduceIte, not_true_eq_false, not_false_eq_true, and_true, true_and, and_false, false_and, or_true, true_or, or_false, false_or, and_self, or_self, eq_self, decide_eq_true_eq, Bool.true_eq_false, reduceCtorEq, ne_eq]; done) | (subst hr23; simp [fEntry, fMore, b2, b6, b10, c14, c16, b18, c24, eq_true c27, c37, c39, Int32.not_le.mp c24]; done) | (subst hr23; simp only [fEntry, fMore, b2, b6, b10, eq_true c14, eq_true c16, b18, c24, eq_true c27, c37, eq_true c39, decide_true, decide_false, Bool.not_true, Bool.not_false, Bool.and_true, Bool.true_and, Bool.and_false, Bool.false_and, Bool.or_true, Bool.true_or, Bool.or_false, Bool.false_or, Bool.and_self, Bool.or_self, if_true, if_false, ite_true, ite_false, Bool.false_eq_true, reduceIte, not_true_eq_false, not_false_eq_true, and_true, true_and, and_false, false_and, or_true, true_or, or_false, false_or, and_self, or_self, eq_self, decide_eq_true_eq, Bool.true_eq_false, reduceCtorEq, ne_eq]; done) | (subst hr23; simp [fEntry, fMore, b2, b6, b10, eq_true c14, eq_true c16, b18, c24, eq_true c27, c37, eq_true c39, Int32.not_le.mp c24]; done), by first | (subst hr23; simp only [fEntry, fMore, b2, b6, b10, c14, c16, b18, c24, eq_true c27, c37, c39, decide_true, decide_false, Bool.not_true, Bool.not_false, Bool.and_true, Bool.true_and, Bool.and_false, Bool.false_and, Bool.or_true, Bool.true_or, Bool.or_false, Bool.false_or, Bool.and_self, Bool.or_self, if_true, if_false, ite_true, ite_false, Bool.false_eq_true, reduceIte, not_true_eq_false, not_false_eq_true, and_true, true_and, and_false, false_and, or_true, true_or, or_false, false_or, and_self, or_self, eq_self, decide_eq_true_eq, Bool.true_eq_false, reduceCtorEq, ne_eq]; done) | (subst hr23; simp [fEntry, fMore, b2, b6, b10, c14, c16, b18, c24, eq_true c27, c37, c39, Int32.not_le.mp c24]; done) | (subst hr23; simp only [fEntry, fMore, b2, b6, b10, eq_true c14, eq_true c16, b18, c24, eq_true c27, c37, eq_true c39, decide_true, decide_false, Bool.not_true, Bool.not_false, Bool.and_true, Bool.true_and, Bool.and_false, Bool.false_and, Bool.or_true, Bool.true_or, Bool.or_false, Bool.false_or, Bool.and_self, Bool.or_self, if_true, if_false, ite_true, ite_false, Bool.false_eq_true, reduceIte, not_true_eq_false, not_false_eq_true, and_true, true_and, and_false, false_and, or_true, true_or, or_false, false_or, and_self, or_self, eq_self, decide_eq_true_eq, Bool.true_eq_false, reduceCtorEq, ne_eq]; done) | (subst hr23; simp [fEntry, fMore, b2, b6, b10, eq_true c14, eq_true c16, b18, c24, eq_true c27, c37, eq_true c39, Int32.not_le.mp c24]; done)⟩)
theorem hdX3_entry : yX3_entry.cls = RX3 ∧ yX3_entry.cls ≠ "java/lang/invoke/MethodHandle" ∧ yX3_entry.cls ≠ "java/lang/invoke/VarHandle" ∧ (parseMethodDescriptor yX3_entry.desc).map (fun d => d.parameters.length) = some 3 := by decide +kernel
set_option maxHeartbeats 4000000 in
set_option maxRecDepth 100000 in
theorem c_X3_blank (l : Launch) (D : va_G) (Y : Nat → ClassId) (ad : MA) (t : MS) (sz : Nat) (o : Int32) (k : Int32) (ho : vp_in o 100) : Met l yX3_blank wsX3_blank ({ frames := 0, cells := 0, slots := 0, locals := 0 }) (wrPc D Y [.ref (mO ad), .int o, .int k] (mW Y ad t) sz) (va_Qv (fun (u : MS) => u = fBlank t o k (fBlankV k)) (wrB D (va_A (mW Y ad t) sz) (fun u : MS => mW Y ad u)) (va_A (mW Y ad t) sz)) (0) (0) (va_A (mW Y ad t) sz) := by
  refine wrOf (Qc := fun A => va_Qv (fun (u : MS) => u = fBlank t o k (fBlankV k)) (wrB D A (fun u : MS => mW Y ad u)) A) (cc := cX3_blank) (maxL := 3) (ret := none) (own := RX3) (by decide) rfl rfl (Nat.le_of_ble_eq_true rfl) ?_
  intro p e s m below meth c ls A hx hb hr hts hown hml hlocks hin hA hP hD hS hK hl
  have iwX3 : ∀ w ∈ u_ws RX3 TX3 19, w ∈ wsX3_blank := fun _ h => List.mem_cons_of_mem _ (List.mem_append_right _ h)
  have hl : lv_has ls 3 [(0, .ref (mO ad)), (1, .int o), (2, .int k)] := hl
  have hS : va_S A s.heap s.heap [] := hS
  refine lv_aload_n hx hb dX3_blank_0 rfl (lv_at hl 0 rfl) ?_
  refine va_get (D := D) (ci := 4) (v := .ref (mH ad 0)) (C := RX3) (T := TX3) (N := 19) hx hb hts iwX3 hown hK hP 0 rfl rfl 4 (by decide) (hts (.fieldLink RX3 16 "ObjectRowsModel" "kinds" "[I") (by decide +kernel)) (fun _ h9 => h9) rfl dX3_blank_1 ?_
  refine lv_iload_n hx hb dX3_blank_4 rfl (lv_at hl 1 rfl) ?_
  refine lv_iload_n hx hb dX3_blank_5 rfl (lv_at hl 2 rfl) ?_
  refine mAst0 (ad := ad) hx hb hK hP hD hS ho dX3_blank_6 (fun H locs hP hD hS => ?_)
  refine lv_aload_n hx hb dX3_blank_7 rfl (lv_at hl 0 rfl) ?_
  refine va_get (D := D) (ci := 4) (v := .ref (mH ad 1)) (C := RX3) (T := TX3) (N := 19) hx hb hts iwX3 hown hK hP 0 rfl rfl 5 (by decide) (hts (.fieldLink RX3 20 "ObjectRowsModel" "numbers" "[I") (by decide +kernel)) (fun _ h9 => h9) rfl dX3_blank_8 ?_
  refine lv_iload_n hx hb dX3_blank_11 rfl (lv_at hl 1 rfl) ?_
  refine lv_iconst (v := 0) hx hb dX3_blank_12 (by decide) ?_
  refine mAst1 (ad := ad) hx hb hK hP hD hS ho dX3_blank_13 (fun H locs hP hD hS => ?_)
  refine lv_aload_n hx hb dX3_blank_14 rfl (lv_at hl 0 rfl) ?_
  refine va_get (D := D) (ci := 4) (v := .ref (mH ad 2)) (C := RX3) (T := TX3) (N := 19) hx hb hts iwX3 hown hK hP 0 rfl rfl 6 (by decide) (hts (.fieldLink RX3 23 "ObjectRowsModel" "froms" "[I") (by decide +kernel)) (fun _ h9 => h9) rfl dX3_blank_15 ?_
  refine lv_iload_n hx hb dX3_blank_18 rfl (lv_at hl 1 rfl) ?_
  refine lv_iconst (v := 0) hx hb dX3_blank_19 (by decide) ?_
  refine mAst2 (ad := ad) hx hb hK hP hD hS ho dX3_blank_20 (fun H locs hP hD hS => ?_)
  refine lv_aload_n hx hb dX3_blank_21 rfl (lv_at hl 0 rfl) ?_
  refine va_get (D := D) (ci := 4) (v := .ref (mH ad 3)) (C := RX3) (T := TX3) (N := 19) hx hb hts iwX3 hown hK hP 0 rfl rfl 7 (by decide) (hts (.fieldLink RX3 26 "ObjectRowsModel" "lengths" "[I") (by decide +kernel)) (fun _ h9 => h9) rfl dX3_blank_22 ?_
  refine lv_iload_n hx hb dX3_blank_25 rfl (lv_at hl 1 rfl) ?_
  refine lv_iconst (v := 0) hx hb dX3_blank_26 (by decide) ?_
  refine mAst3 (ad := ad) hx hb hK hP hD hS ho dX3_blank_27 (fun H locs hP hD hS => ?_)
  refine lv_aload_n hx hb dX3_blank_28 rfl (lv_at hl 0 rfl) ?_
  refine va_get (D := D) (ci := 4) (v := .ref (mH ad 5)) (C := RX3) (T := TX3) (N := 19) hx hb hts iwX3 hown hK hP 0 rfl rfl 9 (by decide) (hts (.fieldLink RX3 33 "ObjectRowsModel" "executable" "[Z") (by decide +kernel)) (fun _ h9 => h9) rfl dX3_blank_29 ?_
  refine lv_iload_n hx hb dX3_blank_32 rfl (lv_at hl 1 rfl) ?_
  refine lv_iconst (v := 0) hx hb dX3_blank_33 (by decide) ?_
  refine mAst5 (ad := ad) hx hb hK hP hD hS (in400 ho) dX3_blank_34 (fun H locs hP hD hS => ?_)
  refine lv_aload_n hx hb dX3_blank_35 rfl (lv_at hl 0 rfl) ?_
  refine va_get (D := D) (ci := 4) (v := .ref (mH ad 6)) (C := RX3) (T := TX3) (N := 19) hx hb hts iwX3 hown hK hP 0 rfl rfl 10 (by decide) (hts (.fieldLink RX3 37 "ObjectRowsModel" "access" "[I") (by decide +kernel)) (fun _ h9 => h9) rfl dX3_blank_36 ?_
  refine lv_iload_n hx hb dX3_blank_39 rfl (lv_at hl 1 rfl) ?_
  refine lv_iload_n hx hb dX3_blank_40 rfl (lv_at hl 2 rfl) ?_
  refine lv_bipush (v := 6) hx hb dX3_blank_41 (by decide) ?_
  refine lv_icmp_ne (tgt := 50) hx hb dX3_blank_43 (by decide) (fun c1 => ?_) (fun c1 => ?_)
  · skip
    refine lv_iconst (v := 3) hx hb dX3_blank_50 (by decide) ?_
    refine mAst6 (ad := ad) hx hb hK hP hD hS (in400 ho) dX3_blank_51 (fun H locs hP hD hS => ?_)
    refine W.widen (k := 0) (n := 0) (by omega) (by omega) ?_
    exact weV (wf := fun u : MS => mW Y ad u) (mUp (mUp (mUp (mUp (mUp (mUp t 0 o k) 1 o 0) 2 o 0) 3 o 0) 5 o (vp_nar .boolean 0)) 6 o 3) hx hb hr hlocks hP hD hS dX3_blank_52 (by first | (simp only [fBlankV, c1, decide_true, decide_false, Bool.not_true, Bool.not_false, Bool.and_true, Bool.true_and, Bool.and_false, Bool.false_and, Bool.or_true, Bool.true_or, Bool.or_false, Bool.false_or, Bool.and_self, Bool.or_self, if_true, if_false, ite_true, ite_false, Bool.false_eq_true, reduceIte, not_true_eq_false, not_false_eq_true, and_true, true_and, and_false, false_and, or_true, true_or, or_false, false_or, and_self, or_self, eq_self, decide_eq_true_eq, Bool.true_eq_false, reduceCtorEq, ne_eq]; done) | (simp [fBlankV, c1]; done))
  · skip
    refine lv_iconst (v := 2) hx hb dX3_blank_46 (by decide) ?_
    refine lv_goto (tgt := 51) hx hb dX3_blank_47 (by decide) ?_
    refine mAst6 (ad := ad) hx hb hK hP hD hS (in400 ho) dX3_blank_51 (fun H locs hP hD hS => ?_)
    refine W.widen (k := 0) (n := 0) (by omega) (by omega) ?_
    exact weV (wf := fun u : MS => mW Y ad u) (mUp (mUp (mUp (mUp (mUp (mUp t 0 o k) 1 o 0) 2 o 0) 3 o 0) 5 o (vp_nar .boolean 0)) 6 o 2) hx hb hr hlocks hP hD hS dX3_blank_52 (by first | (simp only [fBlankV, c1, decide_true, decide_false, Bool.not_true, Bool.not_false, Bool.and_true, Bool.true_and, Bool.and_false, Bool.false_and, Bool.or_true, Bool.true_or, Bool.or_false, Bool.false_or, Bool.and_self, Bool.or_self, if_true, if_false, ite_true, ite_false, Bool.false_eq_true, reduceIte, not_true_eq_false, not_false_eq_true, and_true, true_and, and_false, false_and, or_true, true_or, or_false, false_or, and_self, or_self, eq_self, decide_eq_true_eq, Bool.true_eq_false, reduceCtorEq, ne_eq]; done) | (simp [fBlankV, c1]; done) | (simp only [fBlankV, eq_true c1, decide_true, decide_false, Bool.not_true, Bool.not_false, Bool.and_true, Bool.true_and, Bool.and_false, Bool.false_and, Bool.or_true, Bool.true_or, Bool.or_false, Bool.false_or, Bool.and_self, Bool.or_self, if_true, if_false, ite_true, ite_false, Bool.false_eq_true, reduceIte, not_true_eq_false, not_false_eq_true, and_true, true_and, and_false, false_and, or_true, true_or, or_false, false_or, and_self, or_self, eq_self, decide_eq_true_eq, Bool.true_eq_false, reduceCtorEq, ne_eq]; done) | (simp [fBlankV, eq_true c1]; done))
theorem hdX3_blank : yX3_blank.cls = RX3 ∧ yX3_blank.cls ≠ "java/lang/invoke/MethodHandle" ∧ yX3_blank.cls ≠ "java/lang/invoke/VarHandle" ∧ (parseMethodDescriptor yX3_blank.desc).map (fun d => d.parameters.length) = some 2 := by decide +kernel
set_option maxHeartbeats 4000000 in
set_option maxRecDepth 100000 in
theorem c_X3_part (l : Launch) (D : va_G) (Y : Nat → ClassId) (ad : MA) (t : MS) (sz : Nat) (o : Int32) (f : Int32) (n : Int32) (hv : ∀ o, qObj t o = true → mV t o) (hm : ¬ mMany t = 100 → vp_in (mMany t) 100) (hne : ∀ o, qObj t o = true → o.toNatClampNeg ≠ (mMany t).toNatClampNeg ∧ (qHolder t o).toNatClampNeg ≠ (mMany t).toNatClampNeg) : Met l yX3_part wsX3_part ({ frames := 2, cells := 0, slots := 0, locals := 43 }) (wrPc D Y [.ref (mO ad), .int o, .int f, .int n] (mW Y ad t) sz) (va_Qi (fun (ans : Int32) (u : MS) => ans = (fPart t o f n).1 ∧ u = (fPart t o f n).2) (wrB D (va_A (mW Y ad t) sz) (fun u : MS => mW Y ad u)) (va_A (mW Y ad t) sz)) (0) (0) (va_A (mW Y ad t) sz) := by
  refine wrOf (Qc := fun A => va_Qi (fun (ans : Int32) (u : MS) => ans = (fPart t o f n).1 ∧ u = (fPart t o f n).2) (wrB D A (fun u : MS => mW Y ad u)) A) (cc := cX3_part) (maxL := 5) (ret := (some .int)) (own := RX3) (by decide) rfl rfl (Nat.le_of_ble_eq_true rfl) ?_
  intro p e s m below meth c ls A hx hb hr hts hown hml hlocks hin hA hP hD hS hK hl
  have iwX3 : ∀ w ∈ u_ws RX3 TX3 19, w ∈ wsX3_part := fun _ h => List.mem_cons_of_mem _ (List.mem_append_right _ h)
  have hl : lv_has ls 5 [(0, .ref (mO ad)), (1, .int o), (2, .int f), (3, .int n)] := hl
  have hS : va_S A s.heap s.heap [] := hS
  refine lv_aload_n hx hb dX3_part_0 rfl (lv_at hl 0 rfl) ?_
  refine lv_iconst (v := 0) hx hb dX3_part_1 (by decide) ?_
  refine mFput0 (ad := ad) hx hb hts iwX3 hown hK hP hD hS (hts (.fieldLink RX3 65 "ObjectRowsModel" "thrown" "I") (by decide +kernel)) dX3_part_2 (fun H locs hP hD hS => ?_)
  refine lv_aload_n hx hb dX3_part_5 rfl (lv_at hl 0 rfl) ?_
  refine lv_iload_n hx hb dX3_part_6 rfl (lv_at hl 1 rfl) ?_
  refine rcI (As := [.int o]) (rest := []) ⟨hx, hb, hml, hown, hts⟩ (c_X3_isObject l D Y ad (mSetThr t 0) o ) (cwV 1 hts gX3_part_X3_isObject rfl rfl rfl hdX3_isObject ⟨Nat.le_of_ble_eq_true rfl, Nat.le_of_ble_eq_true rfl⟩) hP hK 0 4 rfl rfl rfl hl.1 rfl (Nat.le_of_ble_eq_true rfl) dX3_part_7 ⟨(Nat.zero_le _), (Nat.zero_le _)⟩ (fun r1 hr1 => ?_)
  replace hr1 : r1 = bI (qObj t o) := hr1
  cases b2 : qObj t o
  · replace hr1 : r1 = 0 := by rw [hr1, b2]; rfl
    subst hr1
    refine lv_if_ne (tgt := 15) hx hb dX3_part_10 (by decide) (fun c3 => absurd (by decide) c3) (fun _ => ?_)
    refine lv_iconst (v := (-1)) hx hb dX3_part_13 (by decide) ?_
    refine W.widen (k := 0) (n := 0) (by omega) (by omega) ?_
    exact weI (wf := fun u : MS => mW Y ad u) (mSetThr t 0) hx hb hr hlocks hP hD hS dX3_part_14 (⟨by first | (simp only [fPart, fPartS, b2, decide_true, decide_false, Bool.not_true, Bool.not_false, Bool.and_true, Bool.true_and, Bool.and_false, Bool.false_and, Bool.or_true, Bool.true_or, Bool.or_false, Bool.false_or, Bool.and_self, Bool.or_self, if_true, if_false, ite_true, ite_false, Bool.false_eq_true, reduceIte, not_true_eq_false, not_false_eq_true, and_true, true_and, and_false, false_and, or_true, true_or, or_false, false_or, and_self, or_self, eq_self, decide_eq_true_eq, Bool.true_eq_false, reduceCtorEq, ne_eq]; done) | (simp [fPart, fPartS, b2]; done), by first | (simp only [fPart, fPartS, b2, decide_true, decide_false, Bool.not_true, Bool.not_false, Bool.and_true, Bool.true_and, Bool.and_false, Bool.false_and, Bool.or_true, Bool.true_or, Bool.or_false, Bool.false_or, Bool.and_self, Bool.or_self, if_true, if_false, ite_true, ite_false, Bool.false_eq_true, reduceIte, not_true_eq_false, not_false_eq_true, and_true, true_and, and_false, false_and, or_true, true_or, or_false, false_or, and_self, or_self, eq_self, decide_eq_true_eq, Bool.true_eq_false, reduceCtorEq, ne_eq]; done) | (simp [fPart, fPartS, b2]; done)⟩)
  · replace hr1 : r1 = 1 := by rw [hr1, b2]; rfl
    subst hr1
    refine lv_if_ne (tgt := 15) hx hb dX3_part_10 (by decide) (fun _ => ?_) (fun c4 => absurd c4 (by decide))
    refine lv_aload_n hx hb dX3_part_15 rfl (lv_at hl 0 rfl) ?_
    refine lv_iload_n hx hb dX3_part_16 rfl (lv_at hl 1 rfl) ?_
    refine rcI (As := [.int o]) (rest := []) ⟨hx, hb, hml, hown, hts⟩ (c_X3_isView l D Y ad (mSetThr t 0) o (hv o b2).1) (cwV 1 hts gX3_part_X3_isView rfl rfl rfl hdX3_isView ⟨Nat.le_of_ble_eq_true rfl, Nat.le_of_ble_eq_true rfl⟩) hP hK 0 4 rfl rfl rfl hl.1 rfl (Nat.le_of_ble_eq_true rfl) dX3_part_17 ⟨(Nat.zero_le _), (Nat.zero_le _)⟩ (fun r5 hr5 => ?_)
    replace hr5 : r5 = bI (qView t o) := hr5
    cases b6 : qView t o
    · replace hr5 : r5 = 0 := by rw [hr5, b6]; rfl
      subst hr5
      refine lv_if_eq (tgt := 56) hx hb dX3_part_20 (by decide) (fun _ => ?_) (fun c7 => absurd (by decide) c7)
      refine lv_aload_n hx hb dX3_part_56 rfl (lv_at hl 0 rfl) ?_
      refine lv_iload_n hx hb dX3_part_57 rfl (lv_at hl 1 rfl) ?_
      refine rcI (As := [.int o]) (rest := []) ⟨hx, hb, hml, hown, hts⟩ (c_X3_isView l D Y ad (mSetThr t 0) o (hv o b2).1) (cwV 1 hts gX3_part_X3_isView rfl rfl rfl hdX3_isView ⟨Nat.le_of_ble_eq_true rfl, Nat.le_of_ble_eq_true rfl⟩) hP hK 0 4 rfl rfl rfl hl.1 rfl (Nat.le_of_ble_eq_true rfl) dX3_part_58 ⟨(Nat.zero_le _), (Nat.zero_le _)⟩ (fun r8 hr8 => ?_)
      replace hr8 : r8 = bI (qView t o) := hr8
      replace hr8 : r8 = 0 := by rw [hr8, b6]; rfl
      subst hr8
      refine lv_if_ne (tgt := 75) hx hb dX3_part_61 (by decide) (fun c9 => absurd (by decide) c9) (fun _ => ?_)
      refine lv_aload_n hx hb dX3_part_64 rfl (lv_at hl 0 rfl) ?_
      refine va_get (D := D) (ci := 4) (v := .ref (mH ad 0)) (C := RX3) (T := TX3) (N := 19) hx hb hts iwX3 hown hK hP 0 rfl rfl 4 (by decide) (hts (.fieldLink RX3 16 "ObjectRowsModel" "kinds" "[I") (by decide +kernel)) (fun _ h9 => h9) rfl dX3_part_65 ?_
      refine lv_iload_n hx hb dX3_part_68 rfl (lv_at hl 1 rfl) ?_
      refine va_iald hx hb hK hP 1 0 rfl rfl (hv o b2).1 dX3_part_69 ?_
      refine lv_topi (fun y10 ey10 => ?_)
      obtain rfl : y10 = mK t o := ey10
      refine lv_bipush (v := 7) hx hb dX3_part_70 (by decide) ?_
      refine lv_icmp_ne (tgt := 84) hx hb dX3_part_72 (by decide) (fun c11 => ?_) (fun c11 => ?_)
      · skip
        refine lv_bipush (v := (-3)) hx hb dX3_part_84 (by decide) ?_
        refine W.widen (k := 0) (n := 0) (by omega) (by omega) ?_
        exact weI (wf := fun u : MS => mW Y ad u) (mSetThr t 0) hx hb hr hlocks hP hD hS dX3_part_86 (⟨by first | (simp only [fPart, fPartS, b2, b6, c11, decide_true, decide_false, Bool.not_true, Bool.not_false, Bool.and_true, Bool.true_and, Bool.and_false, Bool.false_and, Bool.or_true, Bool.true_or, Bool.or_false, Bool.false_or, Bool.and_self, Bool.or_self, if_true, if_false, ite_true, ite_false, Bool.false_eq_true, reduceIte, not_true_eq_false, not_false_eq_true, and_true, true_and, and_false, false_and, or_true, true_or, or_false, false_or, and_self, or_self, eq_self, decide_eq_true_eq, Bool.true_eq_false, reduceCtorEq, ne_eq]; done) | (simp [fPart, fPartS, b2, b6, c11]; done), by first | (simp only [fPart, fPartS, b2, b6, c11, decide_true, decide_false, Bool.not_true, Bool.not_false, Bool.and_true, Bool.true_and, Bool.and_false, Bool.false_and, Bool.or_true, Bool.true_or, Bool.or_false, Bool.false_or, Bool.and_self, Bool.or_self, if_true, if_false, ite_true, ite_false, Bool.false_eq_true, reduceIte, not_true_eq_false, not_false_eq_true, and_true, true_and, and_false, false_and, or_true, true_or, or_false, false_or, and_self, or_self, eq_self, decide_eq_true_eq, Bool.true_eq_false, reduceCtorEq, ne_eq]; done) | (simp [fPart, fPartS, b2, b6, c11]; done)⟩)
      · skip
        refine lv_aload_n hx hb dX3_part_75 rfl (lv_at hl 0 rfl) ?_
        refine lv_iload_n hx hb dX3_part_76 rfl (lv_at hl 1 rfl) ?_
        refine rcI (As := [.int o]) (rest := []) ⟨hx, hb, hml, hown, hts⟩ (c_X3_accessOf l D Y ad (mSetThr t 0) o (hv o b2).1 (hv o b2).2.1) (cwV 1 hts gX3_part_X3_accessOf rfl rfl rfl hdX3_accessOf ⟨Nat.le_of_ble_eq_true rfl, Nat.le_of_ble_eq_true rfl⟩) hP hK 0 4 rfl rfl rfl hl.1 rfl (Nat.le_of_ble_eq_true rfl) dX3_part_77 ⟨(Nat.zero_le _), (Nat.zero_le _)⟩ (fun r12 hr12 => ?_)
        obtain rfl : r12 = qAcc t o := hr12
        refine lv_iconst (v := 2) hx hb dX3_part_80 (by decide) ?_
        refine lv_icmp_ge (tgt := 87) hx hb dX3_part_81 (by decide) (fun c13 => ?_) (fun c13 => ?_)
        · skip
          refine lv_aload_n hx hb dX3_part_87 rfl (lv_at hl 0 rfl) ?_
          refine va_get (D := D) (ci := 4) (v := .int (mMany t)) (C := RX3) (T := TX3) (N := 19) hx hb hts iwX3 hown hK hP 0 rfl rfl 1 (by decide) (hts (.fieldLink RX3 7 "ObjectRowsModel" "many" "I") (by decide +kernel)) (fun _ h9 => h9) rfl dX3_part_88 ?_
          refine lv_bipush (v := 100) hx hb dX3_part_91 (by decide) ?_
          refine lv_icmp_ne (tgt := 99) hx hb dX3_part_93 (by decide) (fun c14 => ?_) (fun c14 => ?_)
          · skip
            refine lv_aload_n hx hb dX3_part_99 rfl (lv_at hl 0 rfl) ?_
            refine va_get (D := D) (ci := 4) (v := .int (mMany t)) (C := RX3) (T := TX3) (N := 19) hx hb hts iwX3 hown hK hP 0 rfl rfl 1 (by decide) (hts (.fieldLink RX3 7 "ObjectRowsModel" "many" "I") (by decide +kernel)) (fun _ h9 => h9) rfl dX3_part_100 ?_
            refine lv_istore (lv' := [(4, .int (mMany t)), (0, .ref (mO ad)), (1, .int o), (2, .int f), (3, .int n)]) hx hb dX3_part_103 hl (by decide) rfl (fun ls hl => ?_)
            refine lv_aload_n hx hb dX3_part_105 rfl (lv_at hl 1 rfl) ?_
            refine lv_iload hx hb dX3_part_106 (lv_at hl 0 rfl) ?_
            refine lv_aload_n hx hb dX3_part_108 rfl (lv_at hl 1 rfl) ?_
            refine va_get (D := D) (ci := 4) (v := .ref (mH ad 0)) (C := RX3) (T := TX3) (N := 19) hx hb hts iwX3 hown hK hP 0 rfl rfl 4 (by decide) (hts (.fieldLink RX3 16 "ObjectRowsModel" "kinds" "[I") (by decide +kernel)) (fun _ h9 => h9) rfl dX3_part_109 ?_
            refine lv_iload_n hx hb dX3_part_112 rfl (lv_at hl 2 rfl) ?_
            refine va_iald hx hb hK hP 1 0 rfl rfl (hv o b2).1 dX3_part_113 ?_
            refine lv_topi (fun y15 ey15 => ?_)
            obtain rfl : y15 = mK t o := ey15
            refine wcV (As := [.int (mMany t), .int (mK t o)]) (rest := []) ⟨hx, hb, hml, hown, hts⟩ (c_X3_blank l D Y ad (mSetThr t 0) H.size (mMany t) (mK t o) (hm c14)) (cwV 2 hts gX3_part_X3_blank rfl rfl rfl hdX3_blank ⟨Nat.le_of_ble_eq_true rfl, Nat.le_of_ble_eq_true rfl⟩) hP hD hK hS hA 0 4 rfl rfl rfl hl.1 rfl (Nat.le_of_ble_eq_true rfl) dX3_part_114 ⟨by dsimp only; omega, by dsimp only; omega⟩ (frSelf hD hS hA) (fun u16 H locs hu16 hP hD hS => ?_)
            subst hu16
            have hP : va_P D vwCl (mW Y ad (fBlank (mSetThr t 0) (mMany t) (mK t o) (fBlankV (mK t o)))) H := hP
            have hD : va_D A (mW Y ad (fBlank (mSetThr t 0) (mMany t) (mK t o) (fBlankV (mK t o)))) := hD
            refine lv_aload_n hx hb dX3_part_117 rfl (lv_at hl 1 rfl) ?_
            refine va_get (D := D) (ci := 4) (v := .ref (mH ad 1)) (C := RX3) (T := TX3) (N := 19) hx hb hts iwX3 hown hK hP 0 rfl rfl 5 (by decide) (hts (.fieldLink RX3 20 "ObjectRowsModel" "numbers" "[I") (by decide +kernel)) (fun _ h9 => h9) rfl dX3_part_118 ?_
            refine lv_iload hx hb dX3_part_121 (lv_at hl 0 rfl) ?_
            refine lv_aload_n hx hb dX3_part_123 rfl (lv_at hl 1 rfl) ?_
            refine va_get (D := D) (ci := 4) (v := .ref (mH ad 1)) (C := RX3) (T := TX3) (N := 19) hx hb hts iwX3 hown hK hP 0 rfl rfl 5 (by decide) (hts (.fieldLink RX3 20 "ObjectRowsModel" "numbers" "[I") (by decide +kernel)) (fun _ h9 => h9) rfl dX3_part_124 ?_
            refine lv_iload_n hx hb dX3_part_127 rfl (lv_at hl 2 rfl) ?_
            refine va_iald hx hb hK hP 2 0 rfl rfl (hv o b2).1 dX3_part_128 ?_
            refine lv_topi (fun y17 ey17 => ?_)
            obtain rfl : y17 = mNu t o := ey17.trans ((pk_un (hne o b2).1))
            refine mAst1 (ad := ad) hx hb hK hP hD hS (hm c14) dX3_part_129 (fun H locs hP hD hS => ?_)
            refine lv_aload_n hx hb dX3_part_130 rfl (lv_at hl 1 rfl) ?_
            refine va_get (D := D) (ci := 4) (v := .ref (mH ad 2)) (C := RX3) (T := TX3) (N := 19) hx hb hts iwX3 hown hK hP 0 rfl rfl 6 (by decide) (hts (.fieldLink RX3 23 "ObjectRowsModel" "froms" "[I") (by decide +kernel)) (fun _ h9 => h9) rfl dX3_part_131 ?_
            refine lv_iload hx hb dX3_part_134 (lv_at hl 0 rfl) ?_
            refine lv_aload_n hx hb dX3_part_136 rfl (lv_at hl 1 rfl) ?_
            refine lv_iload_n hx hb dX3_part_137 rfl (lv_at hl 2 rfl) ?_
            refine rcI (As := [.int o]) (rest := [.int (mMany t), .ref (mH ad 2)]) ⟨hx, hb, hml, hown, hts⟩ (c_X3_isView l D Y ad (mUp (fBlank (mSetThr t 0) (mMany t) (mK t o) (fBlankV (mK t o))) 1 (mMany t) (mNu t o)) o (hv o b2).1) (cwV 1 hts gX3_part_X3_isView rfl rfl rfl hdX3_isView ⟨Nat.le_of_ble_eq_true rfl, Nat.le_of_ble_eq_true rfl⟩) hP hK 0 4 rfl rfl rfl hl.1 rfl (Nat.le_of_ble_eq_true rfl) dX3_part_138 ⟨(Nat.zero_le _), (Nat.zero_le _)⟩ (fun r18 hr18 => ?_)
            replace hr18 := hr18.trans (congrArg bI (qView_at (t := t) ((pk_un (hne o b2).1))))
            replace hr18 : r18 = bI (qView t o) := hr18
            replace hr18 : r18 = 0 := by rw [hr18, b6]; rfl
            subst hr18
            refine lv_if_eq (tgt := 155) hx hb dX3_part_141 (by decide) (fun _ => ?_) (fun c19 => absurd (by decide) c19)
            refine lv_iconst (v := 0) hx hb dX3_part_155 (by decide) ?_
            refine mAst2 (ad := ad) hx hb hK hP hD hS (hm c14) dX3_part_156 (fun H locs hP hD hS => ?_)
            refine lv_aload_n hx hb dX3_part_157 rfl (lv_at hl 1 rfl) ?_
            refine va_get (D := D) (ci := 4) (v := .ref (mH ad 3)) (C := RX3) (T := TX3) (N := 19) hx hb hts iwX3 hown hK hP 0 rfl rfl 7 (by decide) (hts (.fieldLink RX3 26 "ObjectRowsModel" "lengths" "[I") (by decide +kernel)) (fun _ h9 => h9) rfl dX3_part_158 ?_
            refine lv_iload hx hb dX3_part_161 (lv_at hl 0 rfl) ?_
            refine lv_aload_n hx hb dX3_part_163 rfl (lv_at hl 1 rfl) ?_
            refine lv_iload_n hx hb dX3_part_164 rfl (lv_at hl 2 rfl) ?_
            refine rcI (As := [.int o]) (rest := [.int (mMany t), .ref (mH ad 3)]) ⟨hx, hb, hml, hown, hts⟩ (c_X3_isView l D Y ad (mUp (mUp (fBlank (mSetThr t 0) (mMany t) (mK t o) (fBlankV (mK t o))) 1 (mMany t) (mNu t o)) 2 (mMany t) 0) o (hv o b2).1) (cwV 1 hts gX3_part_X3_isView rfl rfl rfl hdX3_isView ⟨Nat.le_of_ble_eq_true rfl, Nat.le_of_ble_eq_true rfl⟩) hP hK 0 4 rfl rfl rfl hl.1 rfl (Nat.le_of_ble_eq_true rfl) dX3_part_165 ⟨(Nat.zero_le _), (Nat.zero_le _)⟩ (fun r20 hr20 => ?_)
            replace hr20 := hr20.trans (congrArg bI (qView_at (t := t) ((pk_un (hne o b2).1))))
            replace hr20 : r20 = bI (qView t o) := hr20
            replace hr20 : r20 = 0 := by rw [hr20, b6]; rfl
            subst hr20
            refine lv_if_eq (tgt := 175) hx hb dX3_part_168 (by decide) (fun _ => ?_) (fun c21 => absurd (by decide) c21)
            refine lv_iconst (v := 0) hx hb dX3_part_175 (by decide) ?_
            refine mAst3 (ad := ad) hx hb hK hP hD hS (hm c14) dX3_part_176 (fun H locs hP hD hS => ?_)
            refine lv_aload_n hx hb dX3_part_177 rfl (lv_at hl 1 rfl) ?_
            refine va_get (D := D) (ci := 4) (v := .ref (mH ad 5)) (C := RX3) (T := TX3) (N := 19) hx hb hts iwX3 hown hK hP 0 rfl rfl 9 (by decide) (hts (.fieldLink RX3 33 "ObjectRowsModel" "executable" "[Z") (by decide +kernel)) (fun _ h9 => h9) rfl dX3_part_178 ?_
            refine lv_iload hx hb dX3_part_181 (lv_at hl 0 rfl) ?_
            refine lv_aload_n hx hb dX3_part_183 rfl (lv_at hl 1 rfl) ?_
            refine va_get (D := D) (ci := 4) (v := .ref (mH ad 5)) (C := RX3) (T := TX3) (N := 19) hx hb hts iwX3 hown hK hP 0 rfl rfl 9 (by decide) (hts (.fieldLink RX3 33 "ObjectRowsModel" "executable" "[Z") (by decide +kernel)) (fun _ h9 => h9) rfl dX3_part_184 ?_
            refine lv_iload_n hx hb dX3_part_187 rfl (lv_at hl 2 rfl) ?_
            refine va_zald hx hb hK hP 6 2 rfl rfl (in400 (hv o b2).1) dX3_part_188 ?_
            refine lv_topi (fun y22 ey22 => ?_)
            obtain rfl : y22 = mEx t o := ey22.trans ((pk_un (hne o b2).1))
            refine mAst5 (ad := ad) hx hb hK hP hD hS (in400 (hm c14)) dX3_part_189 (fun H locs hP hD hS => ?_)
            refine lv_aload_n hx hb dX3_part_190 rfl (lv_at hl 1 rfl) ?_
            refine va_get (D := D) (ci := 4) (v := .ref (mH ad 6)) (C := RX3) (T := TX3) (N := 19) hx hb hts iwX3 hown hK hP 0 rfl rfl 10 (by decide) (hts (.fieldLink RX3 37 "ObjectRowsModel" "access" "[I") (by decide +kernel)) (fun _ h9 => h9) rfl dX3_part_191 ?_
            refine lv_iload hx hb dX3_part_194 (lv_at hl 0 rfl) ?_
            refine lv_aload_n hx hb dX3_part_196 rfl (lv_at hl 1 rfl) ?_
            refine lv_iload_n hx hb dX3_part_197 rfl (lv_at hl 2 rfl) ?_
            refine rcI (As := [.int o]) (rest := [.int (mMany t), .ref (mH ad 6)]) ⟨hx, hb, hml, hown, hts⟩ (c_X3_accessOf l D Y ad (mUp (mUp (mUp (mUp (fBlank (mSetThr t 0) (mMany t) (mK t o) (fBlankV (mK t o))) 1 (mMany t) (mNu t o)) 2 (mMany t) 0) 3 (mMany t) 0) 5 (mMany t) (vp_nar .boolean (mEx t o))) o (hv o b2).1 (by rw [qHolder_at (t := t) (u := mUp (mUp (mUp (mUp (fBlank (mSetThr t 0) (mMany t) (mK t o) (fBlankV (mK t o))) 1 (mMany t) (mNu t o)) 2 (mMany t) 0) 3 (mMany t) 0) 5 (mMany t) (vp_nar .boolean (mEx t o))) (o := o) ((pk_un (hne o b2).1)) ((pk_un (hne o b2).1).trans (pk_un (hne o b2).1))]; exact (hv o b2).2.1)) (cwV 1 hts gX3_part_X3_accessOf rfl rfl rfl hdX3_accessOf ⟨Nat.le_of_ble_eq_true rfl, Nat.le_of_ble_eq_true rfl⟩) hP hK 0 4 rfl rfl rfl hl.1 rfl (Nat.le_of_ble_eq_true rfl) dX3_part_198 ⟨(Nat.zero_le _), (Nat.zero_le _)⟩ (fun r23 hr23 => ?_)
            replace hr23 := hr23.trans (qAcc_at (t := t) ((pk_un (hne o b2).1)) ((pk_un (hne o b2).1).trans (pk_un (hne o b2).1)) ((pk_un (hne o b2).2)))
            obtain rfl : r23 = qAcc t o := hr23
            refine mAst6 (ad := ad) hx hb hK hP hD hS (in400 (hm c14)) dX3_part_201 (fun H locs hP hD hS => ?_)
            refine lv_aload_n hx hb dX3_part_202 rfl (lv_at hl 1 rfl) ?_
            refine lv_dup hx hb dX3_part_203 rfl ?_
            refine va_get (D := D) (ci := 4) (v := .int (mUsed t)) (C := RX3) (T := TX3) (N := 19) hx hb hts iwX3 hown hK hP 0 rfl rfl 2 (by decide) (hts (.fieldLink RX3 13 "ObjectRowsModel" "used" "I") (by decide +kernel)) (fun _ h9 => h9) rfl dX3_part_204 ?_
            refine lv_bipush (v := 8) hx hb dX3_part_207 (by decide) ?_
            refine lv_iadd hx hb dX3_part_209 ?_
            refine mFput2 (ad := ad) hx hb hts iwX3 hown hK hP hD hS (hts (.fieldLink RX3 13 "ObjectRowsModel" "used" "I") (by decide +kernel)) dX3_part_210 (fun H locs hP hD hS => ?_)
            refine lv_aload_n hx hb dX3_part_213 rfl (lv_at hl 1 rfl) ?_
            refine lv_dup hx hb dX3_part_214 rfl ?_
            refine va_get (D := D) (ci := 4) (v := .int (mMany t)) (C := RX3) (T := TX3) (N := 19) hx hb hts iwX3 hown hK hP 0 rfl rfl 1 (by decide) (hts (.fieldLink RX3 7 "ObjectRowsModel" "many" "I") (by decide +kernel)) (fun _ h9 => h9) rfl dX3_part_215 ?_
            refine lv_iconst (v := 1) hx hb dX3_part_218 (by decide) ?_
            refine lv_iadd hx hb dX3_part_219 ?_
            refine mFput1 (ad := ad) hx hb hts iwX3 hown hK hP hD hS (hts (.fieldLink RX3 7 "ObjectRowsModel" "many" "I") (by decide +kernel)) dX3_part_220 (fun H locs hP hD hS => ?_)
            refine lv_iload hx hb dX3_part_223 (lv_at hl 0 rfl) ?_
            refine W.widen (k := 0) (n := 0) (by omega) (by omega) ?_
            exact weI (wf := fun u : MS => mW Y ad u) (mSetMany (mSetUsed (mUp (mUp (mUp (mUp (mUp (fBlank (mSetThr t 0) (mMany t) (mK t o) (fBlankV (mK t o))) 1 (mMany t) (mNu t o)) 2 (mMany t) 0) 3 (mMany t) 0) 5 (mMany t) (vp_nar .boolean (mEx t o))) 6 (mMany t) (qAcc t o)) ((mUsed t) + 8)) ((mMany t) + 1)) hx hb hr hlocks hP hD hS dX3_part_225 (⟨by first | (simp only [fPart, fPartS, b2, b6, c11, c13, c14, decide_true, decide_false, Bool.not_true, Bool.not_false, Bool.and_true, Bool.true_and, Bool.and_false, Bool.false_and, Bool.or_true, Bool.true_or, Bool.or_false, Bool.false_or, Bool.and_self, Bool.or_self, if_true, if_false, ite_true, ite_false, Bool.false_eq_true, reduceIte, not_true_eq_false, not_false_eq_true, and_true, true_and, and_false, false_and, or_true, true_or, or_false, false_or, and_self, or_self, eq_self, decide_eq_true_eq, Bool.true_eq_false, reduceCtorEq, ne_eq]; done) | (simp [fPart, fPartS, b2, b6, c11, c13, c14, Int32.not_lt.mpr c13]; done) | (simp only [fPart, fPartS, b2, b6, eq_true c11, c13, c14, decide_true, decide_false, Bool.not_true, Bool.not_false, Bool.and_true, Bool.true_and, Bool.and_false, Bool.false_and, Bool.or_true, Bool.true_or, Bool.or_false, Bool.false_or, Bool.and_self, Bool.or_self, if_true, if_false, ite_true, ite_false, Bool.false_eq_true, reduceIte, not_true_eq_false, not_false_eq_true, and_true, true_and, and_false, false_and, or_true, true_or, or_false, false_or, and_self, or_self, eq_self, decide_eq_true_eq, Bool.true_eq_false, reduceCtorEq, ne_eq]; done) | (simp [fPart, fPartS, b2, b6, eq_true c11, c13, c14, Int32.not_lt.mpr c13]; done), by first | (simp only [fPart, fPartS, b2, b6, c11, c13, c14, decide_true, decide_false, Bool.not_true, Bool.not_false, Bool.and_true, Bool.true_and, Bool.and_false, Bool.false_and, Bool.or_true, Bool.true_or, Bool.or_false, Bool.false_or, Bool.and_self, Bool.or_self, if_true, if_false, ite_true, ite_false, Bool.false_eq_true, reduceIte, not_true_eq_false, not_false_eq_true, and_true, true_and, and_false, false_and, or_true, true_or, or_false, false_or, and_self, or_self, eq_self, decide_eq_true_eq, Bool.true_eq_false, reduceCtorEq, ne_eq]; done) | (simp [fPart, fPartS, b2, b6, c11, c13, c14, Int32.not_lt.mpr c13]; done) | (simp only [fPart, fPartS, b2, b6, eq_true c11, c13, c14, decide_true, decide_false, Bool.not_true, Bool.not_false, Bool.and_true, Bool.true_and, Bool.and_false, Bool.false_and, Bool.or_true, Bool.true_or, Bool.or_false, Bool.false_or, Bool.and_self, Bool.or_self, if_true, if_false, ite_true, ite_false, Bool.false_eq_true, reduceIte, not_true_eq_false, not_false_eq_true, and_true, true_and, and_false, false_and, or_true, true_or, or_false, false_or, and_self, or_self, eq_self, decide_eq_true_eq, Bool.true_eq_false, reduceCtorEq, ne_eq]; done) | (simp [fPart, fPartS, b2, b6, eq_true c11, c13, c14, Int32.not_lt.mpr c13]; done)⟩)
          · skip
            refine lv_bipush (v := (-4)) hx hb dX3_part_96 (by decide) ?_
            refine W.widen (k := 0) (n := 0) (by omega) (by omega) ?_
            exact weI (wf := fun u : MS => mW Y ad u) (mSetThr t 0) hx hb hr hlocks hP hD hS dX3_part_98 (⟨by first | (simp only [fPart, fPartS, b2, b6, c11, c13, c14, decide_true, decide_false, Bool.not_true, Bool.not_false, Bool.and_true, Bool.true_and, Bool.and_false, Bool.false_and, Bool.or_true, Bool.true_or, Bool.or_false, Bool.false_or, Bool.and_self, Bool.or_self, if_true, if_false, ite_true, ite_false, Bool.false_eq_true, reduceIte, not_true_eq_false, not_false_eq_true, and_true, true_and, and_false, false_and, or_true, true_or, or_false, false_or, and_self, or_self, eq_self, decide_eq_true_eq, Bool.true_eq_false, reduceCtorEq, ne_eq]; done) | (simp [fPart, fPartS, b2, b6, c11, c13, c14, Int32.not_lt.mpr c13]; done) | (simp only [fPart, fPartS, b2, b6, eq_true c11, c13, eq_true c14, decide_true, decide_false, Bool.not_true, Bool.not_false, Bool.and_true, Bool.true_and, Bool.and_false, Bool.false_and, Bool.or_true, Bool.true_or, Bool.or_false, Bool.false_or, Bool.and_self, Bool.or_self, if_true, if_false, ite_true, ite_false, Bool.false_eq_true, reduceIte, not_true_eq_false, not_false_eq_true, and_true, true_and, and_false, false_and, or_true, true_or, or_false, false_or, and_self, or_self, eq_self, decide_eq_true_eq, Bool.true_eq_false, reduceCtorEq, ne_eq]; done) | (simp [fPart, fPartS, b2, b6, eq_true c11, c13, eq_true c14, Int32.not_lt.mpr c13]; done), by first | (simp only [fPart, fPartS, b2, b6, c11, c13, c14, decide_true, decide_false, Bool.not_true, Bool.not_false, Bool.and_true, Bool.true_and, Bool.and_false, Bool.false_and, Bool.or_true, Bool.true_or, Bool.or_false, Bool.false_or, Bool.and_self, Bool.or_self, if_true, if_false, ite_true, ite_false, Bool.false_eq_true, reduceIte, not_true_eq_false, not_false_eq_true, and_true, true_and, and_false, false_and, or_true, true_or, or_false, false_or, and_self, or_self, eq_self, decide_eq_true_eq, Bool.true_eq_false, reduceCtorEq, ne_eq]; done) | (simp [fPart, fPartS, b2, b6, c11, c13, c14, Int32.not_lt.mpr c13]; done) | (simp only [fPart, fPartS, b2, b6, eq_true c11, c13, eq_true c14, decide_true, decide_false, Bool.not_true, Bool.not_false, Bool.and_true, Bool.true_and, Bool.and_false, Bool.false_and, Bool.or_true, Bool.true_or, Bool.or_false, Bool.false_or, Bool.and_self, Bool.or_self, if_true, if_false, ite_true, ite_false, Bool.false_eq_true, reduceIte, not_true_eq_false, not_false_eq_true, and_true, true_and, and_false, false_and, or_true, true_or, or_false, false_or, and_self, or_self, eq_self, decide_eq_true_eq, Bool.true_eq_false, reduceCtorEq, ne_eq]; done) | (simp [fPart, fPartS, b2, b6, eq_true c11, c13, eq_true c14, Int32.not_lt.mpr c13]; done)⟩)
        · skip
          refine lv_bipush (v := (-3)) hx hb dX3_part_84 (by decide) ?_
          refine W.widen (k := 0) (n := 0) (by omega) (by omega) ?_
          exact weI (wf := fun u : MS => mW Y ad u) (mSetThr t 0) hx hb hr hlocks hP hD hS dX3_part_86 (⟨by first | (simp only [fPart, fPartS, b2, b6, c11, c13, decide_true, decide_false, Bool.not_true, Bool.not_false, Bool.and_true, Bool.true_and, Bool.and_false, Bool.false_and, Bool.or_true, Bool.true_or, Bool.or_false, Bool.false_or, Bool.and_self, Bool.or_self, if_true, if_false, ite_true, ite_false, Bool.false_eq_true, reduceIte, not_true_eq_false, not_false_eq_true, and_true, true_and, and_false, false_and, or_true, true_or, or_false, false_or, and_self, or_self, eq_self, decide_eq_true_eq, Bool.true_eq_false, reduceCtorEq, ne_eq]; done) | (simp [fPart, fPartS, b2, b6, c11, c13, Int32.not_le.mp c13]; done) | (simp only [fPart, fPartS, b2, b6, eq_true c11, c13, decide_true, decide_false, Bool.not_true, Bool.not_false, Bool.and_true, Bool.true_and, Bool.and_false, Bool.false_and, Bool.or_true, Bool.true_or, Bool.or_false, Bool.false_or, Bool.and_self, Bool.or_self, if_true, if_false, ite_true, ite_false, Bool.false_eq_true, reduceIte, not_true_eq_false, not_false_eq_true, and_true, true_and, and_false, false_and, or_true, true_or, or_false, false_or, and_self, or_self, eq_self, decide_eq_true_eq, Bool.true_eq_false, reduceCtorEq, ne_eq]; done) | (simp [fPart, fPartS, b2, b6, eq_true c11, c13, Int32.not_le.mp c13]; done), by first | (simp only [fPart, fPartS, b2, b6, c11, c13, decide_true, decide_false, Bool.not_true, Bool.not_false, Bool.and_true, Bool.true_and, Bool.and_false, Bool.false_and, Bool.or_true, Bool.true_or, Bool.or_false, Bool.false_or, Bool.and_self, Bool.or_self, if_true, if_false, ite_true, ite_false, Bool.false_eq_true, reduceIte, not_true_eq_false, not_false_eq_true, and_true, true_and, and_false, false_and, or_true, true_or, or_false, false_or, and_self, or_self, eq_self, decide_eq_true_eq, Bool.true_eq_false, reduceCtorEq, ne_eq]; done) | (simp [fPart, fPartS, b2, b6, c11, c13, Int32.not_le.mp c13]; done) | (simp only [fPart, fPartS, b2, b6, eq_true c11, c13, decide_true, decide_false, Bool.not_true, Bool.not_false, Bool.and_true, Bool.true_and, Bool.and_false, Bool.false_and, Bool.or_true, Bool.true_or, Bool.or_false, Bool.false_or, Bool.and_self, Bool.or_self, if_true, if_false, ite_true, ite_false, Bool.false_eq_true, reduceIte, not_true_eq_false, not_false_eq_true, and_true, true_and, and_false, false_and, or_true, true_or, or_false, false_or, and_self, or_self, eq_self, decide_eq_true_eq, Bool.true_eq_false, reduceCtorEq, ne_eq]; done) | (simp [fPart, fPartS, b2, b6, eq_true c11, c13, Int32.not_le.mp c13]; done)⟩)
    · replace hr5 : r5 = 1 := by rw [hr5, b6]; rfl
      subst hr5
      refine lv_if_eq (tgt := 56) hx hb dX3_part_20 (by decide) (fun c24 => absurd c24 (by decide)) (fun _ => ?_)
      refine lv_iload_n hx hb dX3_part_23 rfl (lv_at hl 2 rfl) ?_
      refine lv_if_lt (tgt := 53) hx hb dX3_part_24 (by decide) (fun c25 => ?_) (fun c25 => ?_)
      · skip
        refine lv_bipush (v := (-2)) hx hb dX3_part_53 (by decide) ?_
        refine W.widen (k := 0) (n := 0) (by omega) (by omega) ?_
        exact weI (wf := fun u : MS => mW Y ad u) (mSetThr t 0) hx hb hr hlocks hP hD hS dX3_part_55 (⟨by first | (simp only [fPart, fPartS, b2, b6, c25, decide_true, decide_false, Bool.not_true, Bool.not_false, Bool.and_true, Bool.true_and, Bool.and_false, Bool.false_and, Bool.or_true, Bool.true_or, Bool.or_false, Bool.false_or, Bool.and_self, Bool.or_self, if_true, if_false, ite_true, ite_false, Bool.false_eq_true, reduceIte, not_true_eq_false, not_false_eq_true, and_true, true_and, and_false, false_and, or_true, true_or, or_false, false_or, and_self, or_self, eq_self, decide_eq_true_eq, Bool.true_eq_false, reduceCtorEq, ne_eq]; done) | (simp [fPart, fPartS, b2, b6, c25, Int32.not_le.mpr c25]; done), by first | (simp only [fPart, fPartS, b2, b6, c25, decide_true, decide_false, Bool.not_true, Bool.not_false, Bool.and_true, Bool.true_and, Bool.and_false, Bool.false_and, Bool.or_true, Bool.true_or, Bool.or_false, Bool.false_or, Bool.and_self, Bool.or_self, if_true, if_false, ite_true, ite_false, Bool.false_eq_true, reduceIte, not_true_eq_false, not_false_eq_true, and_true, true_and, and_false, false_and, or_true, true_or, or_false, false_or, and_self, or_self, eq_self, decide_eq_true_eq, Bool.true_eq_false, reduceCtorEq, ne_eq]; done) | (simp [fPart, fPartS, b2, b6, c25, Int32.not_le.mpr c25]; done)⟩)
      · skip
        refine lv_iload_n hx hb dX3_part_27 rfl (lv_at hl 3 rfl) ?_
        refine lv_if_lt (tgt := 53) hx hb dX3_part_28 (by decide) (fun c26 => ?_) (fun c26 => ?_)
        · skip
          refine lv_bipush (v := (-2)) hx hb dX3_part_53 (by decide) ?_
          refine W.widen (k := 0) (n := 0) (by omega) (by omega) ?_
          exact weI (wf := fun u : MS => mW Y ad u) (mSetThr t 0) hx hb hr hlocks hP hD hS dX3_part_55 (⟨by first | (simp only [fPart, fPartS, b2, b6, c25, c26, decide_true, decide_false, Bool.not_true, Bool.not_false, Bool.and_true, Bool.true_and, Bool.and_false, Bool.false_and, Bool.or_true, Bool.true_or, Bool.or_false, Bool.false_or, Bool.and_self, Bool.or_self, if_true, if_false, ite_true, ite_false, Bool.false_eq_true, reduceIte, not_true_eq_false, not_false_eq_true, and_true, true_and, and_false, false_and, or_true, true_or, or_false, false_or, and_self, or_self, eq_self, decide_eq_true_eq, Bool.true_eq_false, reduceCtorEq, ne_eq]; done) | (simp [fPart, fPartS, b2, b6, c25, c26, Int32.not_lt.mp c25, Int32.not_le.mpr c26]; done), by first | (simp only [fPart, fPartS, b2, b6, c25, c26, decide_true, decide_false, Bool.not_true, Bool.not_false, Bool.and_true, Bool.true_and, Bool.and_false, Bool.false_and, Bool.or_true, Bool.true_or, Bool.or_false, Bool.false_or, Bool.and_self, Bool.or_self, if_true, if_false, ite_true, ite_false, Bool.false_eq_true, reduceIte, not_true_eq_false, not_false_eq_true, and_true, true_and, and_false, false_and, or_true, true_or, or_false, false_or, and_self, or_self, eq_self, decide_eq_true_eq, Bool.true_eq_false, reduceCtorEq, ne_eq]; done) | (simp [fPart, fPartS, b2, b6, c25, c26, Int32.not_lt.mp c25, Int32.not_le.mpr c26]; done)⟩)
        · skip
          refine lv_iload_n hx hb dX3_part_31 rfl (lv_at hl 2 rfl) ?_
          refine lv_aload_n hx hb dX3_part_32 rfl (lv_at hl 0 rfl) ?_
          refine va_get (D := D) (ci := 4) (v := .ref (mH ad 3)) (C := RX3) (T := TX3) (N := 19) hx hb hts iwX3 hown hK hP 0 rfl rfl 7 (by decide) (hts (.fieldLink RX3 26 "ObjectRowsModel" "lengths" "[I") (by decide +kernel)) (fun _ h9 => h9) rfl dX3_part_33 ?_
          refine lv_iload_n hx hb dX3_part_36 rfl (lv_at hl 1 rfl) ?_
          refine va_iald hx hb hK hP 4 0 rfl rfl (hv o b2).1 dX3_part_37 ?_
          refine lv_topi (fun y27 ey27 => ?_)
          obtain rfl : y27 = mL t o := ey27
          refine lv_icmp_gt (tgt := 53) hx hb dX3_part_38 (by decide) (fun c28 => ?_) (fun c28 => ?_)
          · skip
            refine lv_bipush (v := (-2)) hx hb dX3_part_53 (by decide) ?_
            refine W.widen (k := 0) (n := 0) (by omega) (by omega) ?_
            exact weI (wf := fun u : MS => mW Y ad u) (mSetThr t 0) hx hb hr hlocks hP hD hS dX3_part_55 (⟨by first | (simp only [fPart, fPartS, b2, b6, c25, c26, c28, decide_true, decide_false, Bool.not_true, Bool.not_false, Bool.and_true, Bool.true_and, Bool.and_false, Bool.false_and, Bool.or_true, Bool.true_or, Bool.or_false, Bool.false_or, Bool.and_self, Bool.or_self, if_true, if_false, ite_true, ite_false, Bool.false_eq_true, reduceIte, not_true_eq_false, not_false_eq_true, and_true, true_and, and_false, false_and, or_true, true_or, or_false, false_or, and_self, or_self, eq_self, decide_eq_true_eq, Bool.true_eq_false, reduceCtorEq, ne_eq]; done) | (simp [fPart, fPartS, b2, b6, c25, c26, c28, Int32.not_lt.mp c25, Int32.not_lt.mp c26, Int32.not_le.mpr c28]; done), by first | (simp only [fPart, fPartS, b2, b6, c25, c26, c28, decide_true, decide_false, Bool.not_true, Bool.not_false, Bool.and_true, Bool.true_and, Bool.and_false, Bool.false_and, Bool.or_true, Bool.true_or, Bool.or_false, Bool.false_or, Bool.and_self, Bool.or_self, if_true, if_false, ite_true, ite_false, Bool.false_eq_true, reduceIte, not_true_eq_false, not_false_eq_true, and_true, true_and, and_false, false_and, or_true, true_or, or_false, false_or, and_self, or_self, eq_self, decide_eq_true_eq, Bool.true_eq_false, reduceCtorEq, ne_eq]; done) | (simp [fPart, fPartS, b2, b6, c25, c26, c28, Int32.not_lt.mp c25, Int32.not_lt.mp c26, Int32.not_le.mpr c28]; done)⟩)
          · skip
            refine lv_iload_n hx hb dX3_part_41 rfl (lv_at hl 3 rfl) ?_
            refine lv_aload_n hx hb dX3_part_42 rfl (lv_at hl 0 rfl) ?_
            refine va_get (D := D) (ci := 4) (v := .ref (mH ad 3)) (C := RX3) (T := TX3) (N := 19) hx hb hts iwX3 hown hK hP 0 rfl rfl 7 (by decide) (hts (.fieldLink RX3 26 "ObjectRowsModel" "lengths" "[I") (by decide +kernel)) (fun _ h9 => h9) rfl dX3_part_43 ?_
            refine lv_iload_n hx hb dX3_part_46 rfl (lv_at hl 1 rfl) ?_
            refine va_iald hx hb hK hP 4 0 rfl rfl (hv o b2).1 dX3_part_47 ?_
            refine lv_topi (fun y29 ey29 => ?_)
            obtain rfl : y29 = mL t o := ey29
            refine lv_iload_n hx hb dX3_part_48 rfl (lv_at hl 2 rfl) ?_
            refine lv_isub hx hb dX3_part_49 ?_
            refine lv_icmp_le (tgt := 56) hx hb dX3_part_50 (by decide) (fun c30 => ?_) (fun c30 => ?_)
            · skip
              refine lv_aload_n hx hb dX3_part_56 rfl (lv_at hl 0 rfl) ?_
              refine lv_iload_n hx hb dX3_part_57 rfl (lv_at hl 1 rfl) ?_
              refine rcI (As := [.int o]) (rest := []) ⟨hx, hb, hml, hown, hts⟩ (c_X3_isView l D Y ad (mSetThr t 0) o (hv o b2).1) (cwV 1 hts gX3_part_X3_isView rfl rfl rfl hdX3_isView ⟨Nat.le_of_ble_eq_true rfl, Nat.le_of_ble_eq_true rfl⟩) hP hK 0 4 rfl rfl rfl hl.1 rfl (Nat.le_of_ble_eq_true rfl) dX3_part_58 ⟨(Nat.zero_le _), (Nat.zero_le _)⟩ (fun r31 hr31 => ?_)
              replace hr31 : r31 = bI (qView t o) := hr31
              replace hr31 : r31 = 1 := by rw [hr31, b6]; rfl
              subst hr31
              refine lv_if_ne (tgt := 75) hx hb dX3_part_61 (by decide) (fun _ => ?_) (fun c32 => absurd c32 (by decide))
              refine lv_aload_n hx hb dX3_part_75 rfl (lv_at hl 0 rfl) ?_
              refine lv_iload_n hx hb dX3_part_76 rfl (lv_at hl 1 rfl) ?_
              refine rcI (As := [.int o]) (rest := []) ⟨hx, hb, hml, hown, hts⟩ (c_X3_accessOf l D Y ad (mSetThr t 0) o (hv o b2).1 (hv o b2).2.1) (cwV 1 hts gX3_part_X3_accessOf rfl rfl rfl hdX3_accessOf ⟨Nat.le_of_ble_eq_true rfl, Nat.le_of_ble_eq_true rfl⟩) hP hK 0 4 rfl rfl rfl hl.1 rfl (Nat.le_of_ble_eq_true rfl) dX3_part_77 ⟨(Nat.zero_le _), (Nat.zero_le _)⟩ (fun r33 hr33 => ?_)
              obtain rfl : r33 = qAcc t o := hr33
              refine lv_iconst (v := 2) hx hb dX3_part_80 (by decide) ?_
              refine lv_icmp_ge (tgt := 87) hx hb dX3_part_81 (by decide) (fun c34 => ?_) (fun c34 => ?_)
              · skip
                refine lv_aload_n hx hb dX3_part_87 rfl (lv_at hl 0 rfl) ?_
                refine va_get (D := D) (ci := 4) (v := .int (mMany t)) (C := RX3) (T := TX3) (N := 19) hx hb hts iwX3 hown hK hP 0 rfl rfl 1 (by decide) (hts (.fieldLink RX3 7 "ObjectRowsModel" "many" "I") (by decide +kernel)) (fun _ h9 => h9) rfl dX3_part_88 ?_
                refine lv_bipush (v := 100) hx hb dX3_part_91 (by decide) ?_
                refine lv_icmp_ne (tgt := 99) hx hb dX3_part_93 (by decide) (fun c35 => ?_) (fun c35 => ?_)
                · skip
                  refine lv_aload_n hx hb dX3_part_99 rfl (lv_at hl 0 rfl) ?_
                  refine va_get (D := D) (ci := 4) (v := .int (mMany t)) (C := RX3) (T := TX3) (N := 19) hx hb hts iwX3 hown hK hP 0 rfl rfl 1 (by decide) (hts (.fieldLink RX3 7 "ObjectRowsModel" "many" "I") (by decide +kernel)) (fun _ h9 => h9) rfl dX3_part_100 ?_
                  refine lv_istore (lv' := [(4, .int (mMany t)), (0, .ref (mO ad)), (1, .int o), (2, .int f), (3, .int n)]) hx hb dX3_part_103 hl (by decide) rfl (fun ls hl => ?_)
                  refine lv_aload_n hx hb dX3_part_105 rfl (lv_at hl 1 rfl) ?_
                  refine lv_iload hx hb dX3_part_106 (lv_at hl 0 rfl) ?_
                  refine lv_aload_n hx hb dX3_part_108 rfl (lv_at hl 1 rfl) ?_
                  refine va_get (D := D) (ci := 4) (v := .ref (mH ad 0)) (C := RX3) (T := TX3) (N := 19) hx hb hts iwX3 hown hK hP 0 rfl rfl 4 (by decide) (hts (.fieldLink RX3 16 "ObjectRowsModel" "kinds" "[I") (by decide +kernel)) (fun _ h9 => h9) rfl dX3_part_109 ?_
                  refine lv_iload_n hx hb dX3_part_112 rfl (lv_at hl 2 rfl) ?_
                  refine va_iald hx hb hK hP 1 0 rfl rfl (hv o b2).1 dX3_part_113 ?_
                  refine lv_topi (fun y36 ey36 => ?_)
                  obtain rfl : y36 = mK t o := ey36
                  refine wcV (As := [.int (mMany t), .int (mK t o)]) (rest := []) ⟨hx, hb, hml, hown, hts⟩ (c_X3_blank l D Y ad (mSetThr t 0) H.size (mMany t) (mK t o) (hm c35)) (cwV 2 hts gX3_part_X3_blank rfl rfl rfl hdX3_blank ⟨Nat.le_of_ble_eq_true rfl, Nat.le_of_ble_eq_true rfl⟩) hP hD hK hS hA 0 4 rfl rfl rfl hl.1 rfl (Nat.le_of_ble_eq_true rfl) dX3_part_114 ⟨by dsimp only; omega, by dsimp only; omega⟩ (frSelf hD hS hA) (fun u37 H locs hu37 hP hD hS => ?_)
                  subst hu37
                  have hP : va_P D vwCl (mW Y ad (fBlank (mSetThr t 0) (mMany t) (mK t o) (fBlankV (mK t o)))) H := hP
                  have hD : va_D A (mW Y ad (fBlank (mSetThr t 0) (mMany t) (mK t o) (fBlankV (mK t o)))) := hD
                  refine lv_aload_n hx hb dX3_part_117 rfl (lv_at hl 1 rfl) ?_
                  refine va_get (D := D) (ci := 4) (v := .ref (mH ad 1)) (C := RX3) (T := TX3) (N := 19) hx hb hts iwX3 hown hK hP 0 rfl rfl 5 (by decide) (hts (.fieldLink RX3 20 "ObjectRowsModel" "numbers" "[I") (by decide +kernel)) (fun _ h9 => h9) rfl dX3_part_118 ?_
                  refine lv_iload hx hb dX3_part_121 (lv_at hl 0 rfl) ?_
                  refine lv_aload_n hx hb dX3_part_123 rfl (lv_at hl 1 rfl) ?_
                  refine va_get (D := D) (ci := 4) (v := .ref (mH ad 1)) (C := RX3) (T := TX3) (N := 19) hx hb hts iwX3 hown hK hP 0 rfl rfl 5 (by decide) (hts (.fieldLink RX3 20 "ObjectRowsModel" "numbers" "[I") (by decide +kernel)) (fun _ h9 => h9) rfl dX3_part_124 ?_
                  refine lv_iload_n hx hb dX3_part_127 rfl (lv_at hl 2 rfl) ?_
                  refine va_iald hx hb hK hP 2 0 rfl rfl (hv o b2).1 dX3_part_128 ?_
                  refine lv_topi (fun y38 ey38 => ?_)
                  obtain rfl : y38 = mNu t o := ey38.trans ((pk_un (hne o b2).1))
                  refine mAst1 (ad := ad) hx hb hK hP hD hS (hm c35) dX3_part_129 (fun H locs hP hD hS => ?_)
                  refine lv_aload_n hx hb dX3_part_130 rfl (lv_at hl 1 rfl) ?_
                  refine va_get (D := D) (ci := 4) (v := .ref (mH ad 2)) (C := RX3) (T := TX3) (N := 19) hx hb hts iwX3 hown hK hP 0 rfl rfl 6 (by decide) (hts (.fieldLink RX3 23 "ObjectRowsModel" "froms" "[I") (by decide +kernel)) (fun _ h9 => h9) rfl dX3_part_131 ?_
                  refine lv_iload hx hb dX3_part_134 (lv_at hl 0 rfl) ?_
                  refine lv_aload_n hx hb dX3_part_136 rfl (lv_at hl 1 rfl) ?_
                  refine lv_iload_n hx hb dX3_part_137 rfl (lv_at hl 2 rfl) ?_
                  refine rcI (As := [.int o]) (rest := [.int (mMany t), .ref (mH ad 2)]) ⟨hx, hb, hml, hown, hts⟩ (c_X3_isView l D Y ad (mUp (fBlank (mSetThr t 0) (mMany t) (mK t o) (fBlankV (mK t o))) 1 (mMany t) (mNu t o)) o (hv o b2).1) (cwV 1 hts gX3_part_X3_isView rfl rfl rfl hdX3_isView ⟨Nat.le_of_ble_eq_true rfl, Nat.le_of_ble_eq_true rfl⟩) hP hK 0 4 rfl rfl rfl hl.1 rfl (Nat.le_of_ble_eq_true rfl) dX3_part_138 ⟨(Nat.zero_le _), (Nat.zero_le _)⟩ (fun r39 hr39 => ?_)
                  replace hr39 := hr39.trans (congrArg bI (qView_at (t := t) ((pk_un (hne o b2).1))))
                  replace hr39 : r39 = bI (qView t o) := hr39
                  replace hr39 : r39 = 1 := by rw [hr39, b6]; rfl
                  subst hr39
                  refine lv_if_eq (tgt := 155) hx hb dX3_part_141 (by decide) (fun c40 => absurd c40 (by decide)) (fun _ => ?_)
                  refine lv_aload_n hx hb dX3_part_144 rfl (lv_at hl 1 rfl) ?_
                  refine va_get (D := D) (ci := 4) (v := .ref (mH ad 2)) (C := RX3) (T := TX3) (N := 19) hx hb hts iwX3 hown hK hP 0 rfl rfl 6 (by decide) (hts (.fieldLink RX3 23 "ObjectRowsModel" "froms" "[I") (by decide +kernel)) (fun _ h9 => h9) rfl dX3_part_145 ?_
                  refine lv_iload_n hx hb dX3_part_148 rfl (lv_at hl 2 rfl) ?_
                  refine va_iald hx hb hK hP 3 0 rfl rfl (hv o b2).1 dX3_part_149 ?_
                  refine lv_topi (fun y41 ey41 => ?_)
                  obtain rfl : y41 = mFr t o := ey41.trans ((pk_un (hne o b2).1))
                  refine lv_iload_n hx hb dX3_part_150 rfl (lv_at hl 3 rfl) ?_
                  refine lv_iadd hx hb dX3_part_151 ?_
                  refine lv_goto (tgt := 156) hx hb dX3_part_152 (by decide) ?_
                  refine mAst2 (ad := ad) hx hb hK hP hD hS (hm c35) dX3_part_156 (fun H locs hP hD hS => ?_)
                  refine lv_aload_n hx hb dX3_part_157 rfl (lv_at hl 1 rfl) ?_
                  refine va_get (D := D) (ci := 4) (v := .ref (mH ad 3)) (C := RX3) (T := TX3) (N := 19) hx hb hts iwX3 hown hK hP 0 rfl rfl 7 (by decide) (hts (.fieldLink RX3 26 "ObjectRowsModel" "lengths" "[I") (by decide +kernel)) (fun _ h9 => h9) rfl dX3_part_158 ?_
                  refine lv_iload hx hb dX3_part_161 (lv_at hl 0 rfl) ?_
                  refine lv_aload_n hx hb dX3_part_163 rfl (lv_at hl 1 rfl) ?_
                  refine lv_iload_n hx hb dX3_part_164 rfl (lv_at hl 2 rfl) ?_
                  refine rcI (As := [.int o]) (rest := [.int (mMany t), .ref (mH ad 3)]) ⟨hx, hb, hml, hown, hts⟩ (c_X3_isView l D Y ad (mUp (mUp (fBlank (mSetThr t 0) (mMany t) (mK t o) (fBlankV (mK t o))) 1 (mMany t) (mNu t o)) 2 (mMany t) ((mFr t o) + f)) o (hv o b2).1) (cwV 1 hts gX3_part_X3_isView rfl rfl rfl hdX3_isView ⟨Nat.le_of_ble_eq_true rfl, Nat.le_of_ble_eq_true rfl⟩) hP hK 0 4 rfl rfl rfl hl.1 rfl (Nat.le_of_ble_eq_true rfl) dX3_part_165 ⟨(Nat.zero_le _), (Nat.zero_le _)⟩ (fun r42 hr42 => ?_)
                  replace hr42 := hr42.trans (congrArg bI (qView_at (t := t) ((pk_un (hne o b2).1))))
                  replace hr42 : r42 = bI (qView t o) := hr42
                  replace hr42 : r42 = 1 := by rw [hr42, b6]; rfl
                  subst hr42
                  refine lv_if_eq (tgt := 175) hx hb dX3_part_168 (by decide) (fun c43 => absurd c43 (by decide)) (fun _ => ?_)
                  refine lv_iload_n hx hb dX3_part_171 rfl (lv_at hl 4 rfl) ?_
                  refine lv_goto (tgt := 176) hx hb dX3_part_172 (by decide) ?_
                  refine mAst3 (ad := ad) hx hb hK hP hD hS (hm c35) dX3_part_176 (fun H locs hP hD hS => ?_)
                  refine lv_aload_n hx hb dX3_part_177 rfl (lv_at hl 1 rfl) ?_
                  refine va_get (D := D) (ci := 4) (v := .ref (mH ad 5)) (C := RX3) (T := TX3) (N := 19) hx hb hts iwX3 hown hK hP 0 rfl rfl 9 (by decide) (hts (.fieldLink RX3 33 "ObjectRowsModel" "executable" "[Z") (by decide +kernel)) (fun _ h9 => h9) rfl dX3_part_178 ?_
                  refine lv_iload hx hb dX3_part_181 (lv_at hl 0 rfl) ?_
                  refine lv_aload_n hx hb dX3_part_183 rfl (lv_at hl 1 rfl) ?_
                  refine va_get (D := D) (ci := 4) (v := .ref (mH ad 5)) (C := RX3) (T := TX3) (N := 19) hx hb hts iwX3 hown hK hP 0 rfl rfl 9 (by decide) (hts (.fieldLink RX3 33 "ObjectRowsModel" "executable" "[Z") (by decide +kernel)) (fun _ h9 => h9) rfl dX3_part_184 ?_
                  refine lv_iload_n hx hb dX3_part_187 rfl (lv_at hl 2 rfl) ?_
                  refine va_zald hx hb hK hP 6 2 rfl rfl (in400 (hv o b2).1) dX3_part_188 ?_
                  refine lv_topi (fun y44 ey44 => ?_)
                  obtain rfl : y44 = mEx t o := ey44.trans ((pk_un (hne o b2).1))
                  refine mAst5 (ad := ad) hx hb hK hP hD hS (in400 (hm c35)) dX3_part_189 (fun H locs hP hD hS => ?_)
                  refine lv_aload_n hx hb dX3_part_190 rfl (lv_at hl 1 rfl) ?_
                  refine va_get (D := D) (ci := 4) (v := .ref (mH ad 6)) (C := RX3) (T := TX3) (N := 19) hx hb hts iwX3 hown hK hP 0 rfl rfl 10 (by decide) (hts (.fieldLink RX3 37 "ObjectRowsModel" "access" "[I") (by decide +kernel)) (fun _ h9 => h9) rfl dX3_part_191 ?_
                  refine lv_iload hx hb dX3_part_194 (lv_at hl 0 rfl) ?_
                  refine lv_aload_n hx hb dX3_part_196 rfl (lv_at hl 1 rfl) ?_
                  refine lv_iload_n hx hb dX3_part_197 rfl (lv_at hl 2 rfl) ?_
                  refine rcI (As := [.int o]) (rest := [.int (mMany t), .ref (mH ad 6)]) ⟨hx, hb, hml, hown, hts⟩ (c_X3_accessOf l D Y ad (mUp (mUp (mUp (mUp (fBlank (mSetThr t 0) (mMany t) (mK t o) (fBlankV (mK t o))) 1 (mMany t) (mNu t o)) 2 (mMany t) ((mFr t o) + f)) 3 (mMany t) n) 5 (mMany t) (vp_nar .boolean (mEx t o))) o (hv o b2).1 (by rw [qHolder_at (t := t) (u := mUp (mUp (mUp (mUp (fBlank (mSetThr t 0) (mMany t) (mK t o) (fBlankV (mK t o))) 1 (mMany t) (mNu t o)) 2 (mMany t) ((mFr t o) + f)) 3 (mMany t) n) 5 (mMany t) (vp_nar .boolean (mEx t o))) (o := o) ((pk_un (hne o b2).1)) ((pk_un (hne o b2).1).trans (pk_un (hne o b2).1))]; exact (hv o b2).2.1)) (cwV 1 hts gX3_part_X3_accessOf rfl rfl rfl hdX3_accessOf ⟨Nat.le_of_ble_eq_true rfl, Nat.le_of_ble_eq_true rfl⟩) hP hK 0 4 rfl rfl rfl hl.1 rfl (Nat.le_of_ble_eq_true rfl) dX3_part_198 ⟨(Nat.zero_le _), (Nat.zero_le _)⟩ (fun r45 hr45 => ?_)
                  replace hr45 := hr45.trans (qAcc_at (t := t) ((pk_un (hne o b2).1)) ((pk_un (hne o b2).1).trans (pk_un (hne o b2).1)) ((pk_un (hne o b2).2)))
                  obtain rfl : r45 = qAcc t o := hr45
                  refine mAst6 (ad := ad) hx hb hK hP hD hS (in400 (hm c35)) dX3_part_201 (fun H locs hP hD hS => ?_)
                  refine lv_aload_n hx hb dX3_part_202 rfl (lv_at hl 1 rfl) ?_
                  refine lv_dup hx hb dX3_part_203 rfl ?_
                  refine va_get (D := D) (ci := 4) (v := .int (mUsed t)) (C := RX3) (T := TX3) (N := 19) hx hb hts iwX3 hown hK hP 0 rfl rfl 2 (by decide) (hts (.fieldLink RX3 13 "ObjectRowsModel" "used" "I") (by decide +kernel)) (fun _ h9 => h9) rfl dX3_part_204 ?_
                  refine lv_bipush (v := 8) hx hb dX3_part_207 (by decide) ?_
                  refine lv_iadd hx hb dX3_part_209 ?_
                  refine mFput2 (ad := ad) hx hb hts iwX3 hown hK hP hD hS (hts (.fieldLink RX3 13 "ObjectRowsModel" "used" "I") (by decide +kernel)) dX3_part_210 (fun H locs hP hD hS => ?_)
                  refine lv_aload_n hx hb dX3_part_213 rfl (lv_at hl 1 rfl) ?_
                  refine lv_dup hx hb dX3_part_214 rfl ?_
                  refine va_get (D := D) (ci := 4) (v := .int (mMany t)) (C := RX3) (T := TX3) (N := 19) hx hb hts iwX3 hown hK hP 0 rfl rfl 1 (by decide) (hts (.fieldLink RX3 7 "ObjectRowsModel" "many" "I") (by decide +kernel)) (fun _ h9 => h9) rfl dX3_part_215 ?_
                  refine lv_iconst (v := 1) hx hb dX3_part_218 (by decide) ?_
                  refine lv_iadd hx hb dX3_part_219 ?_
                  refine mFput1 (ad := ad) hx hb hts iwX3 hown hK hP hD hS (hts (.fieldLink RX3 7 "ObjectRowsModel" "many" "I") (by decide +kernel)) dX3_part_220 (fun H locs hP hD hS => ?_)
                  refine lv_iload hx hb dX3_part_223 (lv_at hl 0 rfl) ?_
                  refine W.widen (k := 0) (n := 0) (by omega) (by omega) ?_
                  exact weI (wf := fun u : MS => mW Y ad u) (mSetMany (mSetUsed (mUp (mUp (mUp (mUp (mUp (fBlank (mSetThr t 0) (mMany t) (mK t o) (fBlankV (mK t o))) 1 (mMany t) (mNu t o)) 2 (mMany t) ((mFr t o) + f)) 3 (mMany t) n) 5 (mMany t) (vp_nar .boolean (mEx t o))) 6 (mMany t) (qAcc t o)) ((mUsed t) + 8)) ((mMany t) + 1)) hx hb hr hlocks hP hD hS dX3_part_225 (⟨by first | (simp only [fPart, fPartS, b2, b6, c25, c26, c28, c30, c34, c35, decide_true, decide_false, Bool.not_true, Bool.not_false, Bool.and_true, Bool.true_and, Bool.and_false, Bool.false_and, Bool.or_true, Bool.true_or, Bool.or_false, Bool.false_or, Bool.and_self, Bool.or_self, if_true, if_false, ite_true, ite_false, Bool.false_eq_true, reduceIte, not_true_eq_false, not_false_eq_true, and_true, true_and, and_false, false_and, or_true, true_or, or_false, false_or, and_self, or_self, eq_self, decide_eq_true_eq, Bool.true_eq_false, reduceCtorEq, ne_eq]; done) | (simp [fPart, fPartS, b2, b6, c25, c26, c28, c30, c34, c35, Int32.not_lt.mp c25, Int32.not_lt.mp c26, Int32.not_lt.mp c28, Int32.not_lt.mpr c30, Int32.not_lt.mpr c34]; done), by first | (simp only [fPart, fPartS, b2, b6, c25, c26, c28, c30, c34, c35, decide_true, decide_false, Bool.not_true, Bool.not_false, Bool.and_true, Bool.true_and, Bool.and_false, Bool.false_and, Bool.or_true, Bool.true_or, Bool.or_false, Bool.false_or, Bool.and_self, Bool.or_self, if_true, if_false, ite_true, ite_false, Bool.false_eq_true, reduceIte, not_true_eq_false, not_false_eq_true, and_true, true_and, and_false, false_and, or_true, true_or, or_false, false_or, and_self, or_self, eq_self, decide_eq_true_eq, Bool.true_eq_false, reduceCtorEq, ne_eq]; done) | (simp [fPart, fPartS, b2, b6, c25, c26, c28, c30, c34, c35, Int32.not_lt.mp c25, Int32.not_lt.mp c26, Int32.not_lt.mp c28, Int32.not_lt.mpr c30, Int32.not_lt.mpr c34]; done)⟩)
                · skip
                  refine lv_bipush (v := (-4)) hx hb dX3_part_96 (by decide) ?_
                  refine W.widen (k := 0) (n := 0) (by omega) (by omega) ?_
                  exact weI (wf := fun u : MS => mW Y ad u) (mSetThr t 0) hx hb hr hlocks hP hD hS dX3_part_98 (⟨by first | (simp only [fPart, fPartS, b2, b6, c25, c26, c28, c30, c34, c35, decide_true, decide_false, Bool.not_true, Bool.not_false, Bool.and_true, Bool.true_and, Bool.and_false, Bool.false_and, Bool.or_true, Bool.true_or, Bool.or_false, Bool.false_or, Bool.and_self, Bool.or_self, if_true, if_false, ite_true, ite_false, Bool.false_eq_true, reduceIte, not_true_eq_false, not_false_eq_true, and_true, true_and, and_false, false_and, or_true, true_or, or_false, false_or, and_self, or_self, eq_self, decide_eq_true_eq, Bool.true_eq_false, reduceCtorEq, ne_eq]; done) | (simp [fPart, fPartS, b2, b6, c25, c26, c28, c30, c34, c35, Int32.not_lt.mp c25, Int32.not_lt.mp c26, Int32.not_lt.mp c28, Int32.not_lt.mpr c30, Int32.not_lt.mpr c34]; done) | (simp only [fPart, fPartS, b2, b6, c25, c26, c28, c30, c34, eq_true c35, decide_true, decide_false, Bool.not_true, Bool.not_false, Bool.and_true, Bool.true_and, Bool.and_false, Bool.false_and, Bool.or_true, Bool.true_or, Bool.or_false, Bool.false_or, Bool.and_self, Bool.or_self, if_true, if_false, ite_true, ite_false, Bool.false_eq_true, reduceIte, not_true_eq_false, not_false_eq_true, and_true, true_and, and_false, false_and, or_true, true_or, or_false, false_or, and_self, or_self, eq_self, decide_eq_true_eq, Bool.true_eq_false, reduceCtorEq, ne_eq]; done) | (simp [fPart, fPartS, b2, b6, c25, c26, c28, c30, c34, eq_true c35, Int32.not_lt.mp c25, Int32.not_lt.mp c26, Int32.not_lt.mp c28, Int32.not_lt.mpr c30, Int32.not_lt.mpr c34]; done), by first | (simp only [fPart, fPartS, b2, b6, c25, c26, c28, c30, c34, c35, decide_true, decide_false, Bool.not_true, Bool.not_false, Bool.and_true, Bool.true_and, Bool.and_false, Bool.false_and, Bool.or_true, Bool.true_or, Bool.or_false, Bool.false_or, Bool.and_self, Bool.or_self, if_true, if_false, ite_true, ite_false, Bool.false_eq_true, reduceIte, not_true_eq_false, not_false_eq_true, and_true, true_and, and_false, false_and, or_true, true_or, or_false, false_or, and_self, or_self, eq_self, decide_eq_true_eq, Bool.true_eq_false, reduceCtorEq, ne_eq]; done) | (simp [fPart, fPartS, b2, b6, c25, c26, c28, c30, c34, c35, Int32.not_lt.mp c25, Int32.not_lt.mp c26, Int32.not_lt.mp c28, Int32.not_lt.mpr c30, Int32.not_lt.mpr c34]; done) | (simp only [fPart, fPartS, b2, b6, c25, c26, c28, c30, c34, eq_true c35, decide_true, decide_false, Bool.not_true, Bool.not_false, Bool.and_true, Bool.true_and, Bool.and_false, Bool.false_and, Bool.or_true, Bool.true_or, Bool.or_false, Bool.false_or, Bool.and_self, Bool.or_self, if_true, if_false, ite_true, ite_false, Bool.false_eq_true, reduceIte, not_true_eq_false, not_false_eq_true, and_true, true_and, and_false, false_and, or_true, true_or, or_false, false_or, and_self, or_self, eq_self, decide_eq_true_eq, Bool.true_eq_false, reduceCtorEq, ne_eq]; done) | (simp [fPart, fPartS, b2, b6, c25, c26, c28, c30, c34, eq_true c35, Int32.not_lt.mp c25, Int32.not_lt.mp c26, Int32.not_lt.mp c28, Int32.not_lt.mpr c30, Int32.not_lt.mpr c34]; done)⟩)
              · skip
                refine lv_bipush (v := (-3)) hx hb dX3_part_84 (by decide) ?_
                refine W.widen (k := 0) (n := 0) (by omega) (by omega) ?_
                exact weI (wf := fun u : MS => mW Y ad u) (mSetThr t 0) hx hb hr hlocks hP hD hS dX3_part_86 (⟨by first | (simp only [fPart, fPartS, b2, b6, c25, c26, c28, c30, c34, decide_true, decide_false, Bool.not_true, Bool.not_false, Bool.and_true, Bool.true_and, Bool.and_false, Bool.false_and, Bool.or_true, Bool.true_or, Bool.or_false, Bool.false_or, Bool.and_self, Bool.or_self, if_true, if_false, ite_true, ite_false, Bool.false_eq_true, reduceIte, not_true_eq_false, not_false_eq_true, and_true, true_and, and_false, false_and, or_true, true_or, or_false, false_or, and_self, or_self, eq_self, decide_eq_true_eq, Bool.true_eq_false, reduceCtorEq, ne_eq]; done) | (simp [fPart, fPartS, b2, b6, c25, c26, c28, c30, c34, Int32.not_lt.mp c25, Int32.not_lt.mp c26, Int32.not_lt.mp c28, Int32.not_lt.mpr c30, Int32.not_le.mp c34]; done), by first | (simp only [fPart, fPartS, b2, b6, c25, c26, c28, c30, c34, decide_true, decide_false, Bool.not_true, Bool.not_false, Bool.and_true, Bool.true_and, Bool.and_false, Bool.false_and, Bool.or_true, Bool.true_or, Bool.or_false, Bool.false_or, Bool.and_self, Bool.or_self, if_true, if_false, ite_true, ite_false, Bool.false_eq_true, reduceIte, not_true_eq_false, not_false_eq_true, and_true, true_and, and_false, false_and, or_true, true_or, or_false, false_or, and_self, or_self, eq_self, decide_eq_true_eq, Bool.true_eq_false, reduceCtorEq, ne_eq]; done) | (simp [fPart, fPartS, b2, b6, c25, c26, c28, c30, c34, Int32.not_lt.mp c25, Int32.not_lt.mp c26, Int32.not_lt.mp c28, Int32.not_lt.mpr c30, Int32.not_le.mp c34]; done)⟩)
            · skip
              refine lv_bipush (v := (-2)) hx hb dX3_part_53 (by decide) ?_
              refine W.widen (k := 0) (n := 0) (by omega) (by omega) ?_
              exact weI (wf := fun u : MS => mW Y ad u) (mSetThr t 0) hx hb hr hlocks hP hD hS dX3_part_55 (⟨by first | (simp only [fPart, fPartS, b2, b6, c25, c26, c28, c30, decide_true, decide_false, Bool.not_true, Bool.not_false, Bool.and_true, Bool.true_and, Bool.and_false, Bool.false_and, Bool.or_true, Bool.true_or, Bool.or_false, Bool.false_or, Bool.and_self, Bool.or_self, if_true, if_false, ite_true, ite_false, Bool.false_eq_true, reduceIte, not_true_eq_false, not_false_eq_true, and_true, true_and, and_false, false_and, or_true, true_or, or_false, false_or, and_self, or_self, eq_self, decide_eq_true_eq, Bool.true_eq_false, reduceCtorEq, ne_eq]; done) | (simp [fPart, fPartS, b2, b6, c25, c26, c28, c30, Int32.not_lt.mp c25, Int32.not_lt.mp c26, Int32.not_lt.mp c28, Int32.not_le.mp c30]; done), by first | (simp only [fPart, fPartS, b2, b6, c25, c26, c28, c30, decide_true, decide_false, Bool.not_true, Bool.not_false, Bool.and_true, Bool.true_and, Bool.and_false, Bool.false_and, Bool.or_true, Bool.true_or, Bool.or_false, Bool.false_or, Bool.and_self, Bool.or_self, if_true, if_false, ite_true, ite_false, Bool.false_eq_true, reduceIte, not_true_eq_false, not_false_eq_true, and_true, true_and, and_false, false_and, or_true, true_or, or_false, false_or, and_self, or_self, eq_self, decide_eq_true_eq, Bool.true_eq_false, reduceCtorEq, ne_eq]; done) | (simp [fPart, fPartS, b2, b6, c25, c26, c28, c30, Int32.not_lt.mp c25, Int32.not_lt.mp c26, Int32.not_lt.mp c28, Int32.not_le.mp c30]; done)⟩)
theorem hdX3_part : yX3_part.cls = RX3 ∧ yX3_part.cls ≠ "java/lang/invoke/MethodHandle" ∧ yX3_part.cls ≠ "java/lang/invoke/VarHandle" ∧ (parseMethodDescriptor yX3_part.desc).map (fun d => d.parameters.length) = some 3 := by decide +kernel
