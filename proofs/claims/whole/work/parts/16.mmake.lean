set_option maxHeartbeats 4000000 in
set_option maxRecDepth 100000 in
theorem c_X3_make (l : Launch) (D : va_G) (Y : Nat → ClassId) (ad : MA) (t : MS) (c0 sv : Nat) (sz : Nat) (k : Int32) (z : Int32) (hmc : mMany t = nI c0) (hc100 : ¬ mMany t = 100 → c0 < 100) (hsv : mSaves t = nI sv) (hsv3 : ¬ mSaves t = 3 → sv < 3) (hsv4 : ¬ mMany t = 100 → ¬ mSaves t = 3 → vp_in (mSaves t + 1) 4) (hm : ¬ mMany t = 100 → vp_in (mMany t) 100) (h5 : ∀ j, vp_nar .boolean (mI t 5 j) = mI t 5 j) (h9 : ∀ j, vp_nar .boolean (mI t 9 j) = mI t 9 j) : Met l yX3_make wsX3_make ({ frames := 2, cells := 0, slots := 0, locals := 44 }) (wrPc D Y [.ref (mO ad), .int k, .int z] (mW Y ad t) sz) (va_Qi (fun (ans : Int32) (u : MS) => ans = (fMake t k z c0 sv).1 ∧ u = (fMake t k z c0 sv).2) (wrB D (va_A (mW Y ad t) sz) (fun u : MS => mW Y ad u)) (va_A (mW Y ad t) sz)) (0) (0) (va_A (mW Y ad t) sz) := by
  refine wrOf (Qc := fun A => va_Qi (fun (ans : Int32) (u : MS) => ans = (fMake t k z c0 sv).1 ∧ u = (fMake t k z c0 sv).2) (wrB D A (fun u : MS => mW Y ad u)) A) (cc := cX3_make) (maxL := 6) (ret := (some .int)) (own := RX3) (by decide) rfl rfl (Nat.le_of_ble_eq_true rfl) ?_
  intro p e s m below meth c ls A hx hb hr hts hown hml hlocks hin hA hP hD hS hK hl
  have iwX3 : ∀ w ∈ u_ws RX3 TX3 19, w ∈ wsX3_make := fun _ h => List.mem_cons_of_mem _ (List.mem_append_right _ h)
  have hl : lv_has ls 6 [(0, .ref (mO ad)), (1, .int k), (2, .int z)] := hl
  have hS : va_S A s.heap s.heap [] := hS
  refine lv_aload_n hx hb dX3_make_0 rfl (lv_at hl 0 rfl) ?_
  refine lv_iconst (v := 0) hx hb dX3_make_1 (by decide) ?_
  refine mFput0 (ad := ad) hx hb hts iwX3 hown hK hP hD hS (hts (.fieldLink RX3 65 "ObjectRowsModel" "thrown" "I") (by decide +kernel)) dX3_make_2 (fun H locs hP hD hS => ?_)
  refine lv_iload_n hx hb dX3_make_5 rfl (lv_at hl 1 rfl) ?_
  refine lv_iconst (v := 0) hx hb dX3_make_6 (by decide) ?_
  refine lv_bipush (v := 11) hx hb dX3_make_7 (by decide) ?_
  refine scI (As := [.int k, .int 0, .int 11]) (rest := []) ⟨hx, hb, hml, hown, hts⟩ (c_X3_within l k 0 11) (va_cwS 3 hts gX3_make_X3_within rfl rfl rfl hdX3_within ⟨Nat.le_of_ble_eq_true rfl, Nat.le_of_ble_eq_true rfl⟩) rfl hl.1 rfl (Nat.le_of_ble_eq_true rfl) dX3_make_9 ⟨(Nat.zero_le _), (Nat.zero_le _)⟩ (fun r1 hr1 => ?_)
  replace hr1 : r1 = bI (qWithin k 0 11) := hr1
  cases b2 : qWithin k 0 11
  · replace hr1 : r1 = 0 := by rw [hr1, b2]; rfl
    subst hr1
    refine lv_if_ne (tgt := 17) hx hb dX3_make_12 (by decide) (fun c3 => absurd (by decide) c3) (fun _ => ?_)
    refine lv_iconst (v := (-1)) hx hb dX3_make_15 (by decide) ?_
    refine W.widen (k := 0) (n := 0) (by omega) (by omega) ?_
    exact weI (wf := fun u : MS => mW Y ad u) (mSetThr t 0) hx hb hr hlocks hP hD hS dX3_make_16 (⟨by simp only [fMake, fMakeS, fMkSave, b2, decide_true, decide_false, Bool.not_true, Bool.not_false, Bool.and_true, Bool.true_and, Bool.and_false, Bool.false_and, Bool.or_true, Bool.true_or, Bool.or_false, Bool.false_or, Bool.and_self, Bool.or_self, if_true, if_false, ite_true, ite_false, Bool.false_eq_true, reduceIte, not_true_eq_false, not_false_eq_true, and_true, true_and, and_false, false_and, or_true, true_or, or_false, false_or, and_self, or_self, eq_self, decide_eq_true_eq, Bool.true_eq_false, reduceCtorEq, ne_eq], by simp only [fMake, fMakeS, fMkSave, b2, decide_true, decide_false, Bool.not_true, Bool.not_false, Bool.and_true, Bool.true_and, Bool.and_false, Bool.false_and, Bool.or_true, Bool.true_or, Bool.or_false, Bool.false_or, Bool.and_self, Bool.or_self, if_true, if_false, ite_true, ite_false, Bool.false_eq_true, reduceIte, not_true_eq_false, not_false_eq_true, and_true, true_and, and_false, false_and, or_true, true_or, or_false, false_or, and_self, or_self, eq_self, decide_eq_true_eq, Bool.true_eq_false, reduceCtorEq, ne_eq]⟩)
  · replace hr1 : r1 = 1 := by rw [hr1, b2]; rfl
    subst hr1
    refine lv_if_ne (tgt := 17) hx hb dX3_make_12 (by decide) (fun _ => ?_) (fun c4 => absurd c4 (by decide))
    refine lv_aload_n hx hb dX3_make_17 rfl (lv_at hl 0 rfl) ?_
    refine lv_iload_n hx hb dX3_make_18 rfl (lv_at hl 1 rfl) ?_
    refine lv_iload_n hx hb dX3_make_19 rfl (lv_at hl 2 rfl) ?_
    refine rcI (As := [.int k, .int z]) (rest := []) ⟨hx, hb, hml, hown, hts⟩ (c_X3_isSize l D Y ad (mSetThr t 0) k z ) (cwV 2 hts gX3_make_X3_isSize rfl rfl rfl hdX3_isSize ⟨Nat.le_of_ble_eq_true rfl, Nat.le_of_ble_eq_true rfl⟩) hP hK 0 4 rfl rfl rfl hl.1 rfl (Nat.le_of_ble_eq_true rfl) dX3_make_20 ⟨(Nat.zero_le _), (Nat.zero_le _)⟩ (fun r5 hr5 => ?_)
    replace hr5 : r5 = bI (qSize t k z) := hr5
    cases b6 : qSize t k z
    · replace hr5 : r5 = 0 := by rw [hr5, b6]; rfl
      subst hr5
      refine lv_if_ne (tgt := 29) hx hb dX3_make_23 (by decide) (fun c7 => absurd (by decide) c7) (fun _ => ?_)
      refine lv_bipush (v := (-2)) hx hb dX3_make_26 (by decide) ?_
      refine W.widen (k := 0) (n := 0) (by omega) (by omega) ?_
      exact weI (wf := fun u : MS => mW Y ad u) (mSetThr t 0) hx hb hr hlocks hP hD hS dX3_make_28 (⟨by simp only [fMake, fMakeS, fMkSave, b2, b6, decide_true, decide_false, Bool.not_true, Bool.not_false, Bool.and_true, Bool.true_and, Bool.and_false, Bool.false_and, Bool.or_true, Bool.true_or, Bool.or_false, Bool.false_or, Bool.and_self, Bool.or_self, if_true, if_false, ite_true, ite_false, Bool.false_eq_true, reduceIte, not_true_eq_false, not_false_eq_true, and_true, true_and, and_false, false_and, or_true, true_or, or_false, false_or, and_self, or_self, eq_self, decide_eq_true_eq, Bool.true_eq_false, reduceCtorEq, ne_eq], by simp only [fMake, fMakeS, fMkSave, b2, b6, decide_true, decide_false, Bool.not_true, Bool.not_false, Bool.and_true, Bool.true_and, Bool.and_false, Bool.false_and, Bool.or_true, Bool.true_or, Bool.or_false, Bool.false_or, Bool.and_self, Bool.or_self, if_true, if_false, ite_true, ite_false, Bool.false_eq_true, reduceIte, not_true_eq_false, not_false_eq_true, and_true, true_and, and_false, false_and, or_true, true_or, or_false, false_or, and_self, or_self, eq_self, decide_eq_true_eq, Bool.true_eq_false, reduceCtorEq, ne_eq]⟩)
    · replace hr5 : r5 = 1 := by rw [hr5, b6]; rfl
      subst hr5
      refine lv_if_ne (tgt := 29) hx hb dX3_make_23 (by decide) (fun _ => ?_) (fun c8 => absurd c8 (by decide))
      refine lv_aload_n hx hb dX3_make_29 rfl (lv_at hl 0 rfl) ?_
      refine va_get (D := D) (ci := 4) (v := .int (mMany t)) (C := RX3) (T := TX3) (N := 19) hx hb hts iwX3 hown hK hP 0 rfl rfl 1 (by decide) (hts (.fieldLink RX3 7 "ObjectRowsModel" "many" "I") (by decide +kernel)) (fun _ h9 => h9) rfl dX3_make_30 ?_
      refine lv_bipush (v := 100) hx hb dX3_make_33 (by decide) ?_
      refine lv_icmp_eq (tgt := 52) hx hb dX3_make_35 (by decide) (fun c9 => ?_) (fun c9 => ?_)
      · skip
        refine lv_bipush (v := (-4)) hx hb dX3_make_52 (by decide) ?_
        refine W.widen (k := 0) (n := 0) (by omega) (by omega) ?_
        exact weI (wf := fun u : MS => mW Y ad u) (mSetThr t 0) hx hb hr hlocks hP hD hS dX3_make_54 (⟨by simp only [fMake, fMakeS, fMkSave, b2, b6, eq_true c9, decide_true, decide_false, Bool.not_true, Bool.not_false, Bool.and_true, Bool.true_and, Bool.and_false, Bool.false_and, Bool.or_true, Bool.true_or, Bool.or_false, Bool.false_or, Bool.and_self, Bool.or_self, if_true, if_false, ite_true, ite_false, Bool.false_eq_true, reduceIte, not_true_eq_false, not_false_eq_true, and_true, true_and, and_false, false_and, or_true, true_or, or_false, false_or, and_self, or_self, eq_self, decide_eq_true_eq, Bool.true_eq_false, reduceCtorEq, ne_eq], by simp only [fMake, fMakeS, fMkSave, b2, b6, eq_true c9, decide_true, decide_false, Bool.not_true, Bool.not_false, Bool.and_true, Bool.true_and, Bool.and_false, Bool.false_and, Bool.or_true, Bool.true_or, Bool.or_false, Bool.false_or, Bool.and_self, Bool.or_self, if_true, if_false, ite_true, ite_false, Bool.false_eq_true, reduceIte, not_true_eq_false, not_false_eq_true, and_true, true_and, and_false, false_and, or_true, true_or, or_false, false_or, and_self, or_self, eq_self, decide_eq_true_eq, Bool.true_eq_false, reduceCtorEq, ne_eq]⟩)
      · skip
        refine lv_iload_n hx hb dX3_make_38 rfl (lv_at hl 1 rfl) ?_
        refine lv_bipush (v := 11) hx hb dX3_make_39 (by decide) ?_
        refine lv_icmp_ne (tgt := 55) hx hb dX3_make_41 (by decide) (fun c10 => ?_) (fun c10 => ?_)
        · skip
          refine lv_iload_n hx hb dX3_make_55 rfl (lv_at hl 1 rfl) ?_
          refine lv_bipush (v := 11) hx hb dX3_make_56 (by decide) ?_
          refine lv_icmp_ne (tgt := 106) hx hb dX3_make_58 (by decide) (fun _ => ?_) (fun c11 => absurd c11 c10)
          refine lv_aload_n hx hb dX3_make_106 rfl (lv_at hl 0 rfl) ?_
          refine va_get (D := D) (ci := 4) (v := .int (mMany t)) (C := RX3) (T := TX3) (N := 19) hx hb hts iwX3 hown hK hP 0 rfl rfl 1 (by decide) (hts (.fieldLink RX3 7 "ObjectRowsModel" "many" "I") (by decide +kernel)) (fun _ h9 => h9) rfl dX3_make_107 ?_
          refine lv_istore_n (lv' := [(3, .int (mMany t)), (0, .ref (mO ad)), (1, .int k), (2, .int z)]) hx hb dX3_make_110 rfl hl (by decide) rfl (fun ls hl => ?_)
          refine lv_aload_n hx hb dX3_make_111 rfl (lv_at hl 1 rfl) ?_
          refine lv_iload_n hx hb dX3_make_112 rfl (lv_at hl 0 rfl) ?_
          refine lv_iload_n hx hb dX3_make_113 rfl (lv_at hl 2 rfl) ?_
          refine wcV (As := [.int (mMany t), .int k]) (rest := []) ⟨hx, hb, hml, hown, hts⟩ (c_X3_blank l D Y ad (mSetThr t 0) H.size (mMany t) k (hm c9)) (cwV 2 hts gX3_make_X3_blank rfl rfl rfl hdX3_blank ⟨Nat.le_of_ble_eq_true rfl, Nat.le_of_ble_eq_true rfl⟩) hP hD hK hS hA 0 4 rfl rfl rfl hl.1 rfl (Nat.le_of_ble_eq_true rfl) dX3_make_114 ⟨by dsimp only; omega, by dsimp only; omega⟩ (frSelf hD hS hA) (fun u12 H locs hu12 hP hD hS => ?_)
          subst hu12
          have hP : va_P D vwCl (mW Y ad (fBlank (mSetThr t 0) (mMany t) k (fBlankV k))) H := hP
          have hD : va_D A (mW Y ad (fBlank (mSetThr t 0) (mMany t) k (fBlankV k))) := hD
          suffices J13 : W p l e ({ frames := 2, cells := 0, slots := 0, locals := 44 }) s m ([.ref (mO ad), .int k, .int z] : List Value).toArray below meth c H locs (0) (0) (MQ below (va_Qi (fun (ans : Int32) (u : MS) => ans = (fMake t k z c0 sv).1 ∧ u = (fMake t k z c0 sv).2) (wrB D A (fun u : MS => mW Y ad u)) A) ([.ref (mO ad), .int k, .int z] : List Value).toArray s (0) (0) A) (F0 m 143 ls [.int (mkNumB k)]) by
            refine lv_iload_n hx hb dX3_make_117 rfl (lv_at hl 2 rfl) ?_
            refine lv_iconst (v := 1) hx hb dX3_make_118 (by decide) ?_
            refine lv_iconst (v := 3) hx hb dX3_make_119 (by decide) ?_
            refine scI (As := [.int k, .int 1, .int 3]) (rest := []) ⟨hx, hb, hml, hown, hts⟩ (c_X3_within l k 1 3) (va_cwS 3 hts gX3_make_X3_within rfl rfl rfl hdX3_within ⟨Nat.le_of_ble_eq_true rfl, Nat.le_of_ble_eq_true rfl⟩) rfl hl.1 rfl (Nat.le_of_ble_eq_true rfl) dX3_make_120 ⟨(Nat.zero_le _), (Nat.zero_le _)⟩ (fun r14 hr14 => ?_)
            replace hr14 : r14 = bI (qWithin k 1 3) := hr14
            cases b15 : qWithin k 1 3
            · replace hr14 : r14 = 0 := by rw [hr14, b15]; rfl
              subst hr14
              refine lv_if_ne (tgt := 138) hx hb dX3_make_123 (by decide) (fun c16 => absurd (by decide) c16) (fun _ => ?_)
              refine lv_iload_n hx hb dX3_make_126 rfl (lv_at hl 2 rfl) ?_
              refine lv_bipush (v := 9) hx hb dX3_make_127 (by decide) ?_
              refine lv_icmp_eq (tgt := 138) hx hb dX3_make_129 (by decide) (fun c17 => ?_) (fun c17 => ?_)
              · skip
                refine lv_iconst (v := 1) hx hb dX3_make_138 (by decide) ?_
                refine lv_goto (tgt := 143) hx hb dX3_make_139 (by decide) ?_
                have e18 : mkNumB k = 1 := by first | (simp only [mkNumB, b15, c17, decide_true, decide_false, Bool.not_true, Bool.not_false, Bool.and_true, Bool.true_and, Bool.and_false, Bool.false_and, Bool.or_true, Bool.true_or, Bool.or_false, Bool.false_or, Bool.and_self, Bool.or_self, if_true, if_false, ite_true, ite_false, Bool.false_eq_true, reduceIte, not_true_eq_false, not_false_eq_true, and_true, true_and, and_false, false_and, or_true, true_or, or_false, false_or, and_self, or_self, eq_self, decide_eq_true_eq, Bool.true_eq_false, reduceCtorEq, ne_eq]; done) | (simp [mkNumB, b15, c17]; done) | (simp only [mkNumB, b15, eq_true c17, decide_true, decide_false, Bool.not_true, Bool.not_false, Bool.and_true, Bool.true_and, Bool.and_false, Bool.false_and, Bool.or_true, Bool.true_or, Bool.or_false, Bool.false_or, Bool.and_self, Bool.or_self, if_true, if_false, ite_true, ite_false, Bool.false_eq_true, reduceIte, not_true_eq_false, not_false_eq_true, and_true, true_and, and_false, false_and, or_true, true_or, or_false, false_or, and_self, or_self, eq_self, decide_eq_true_eq, Bool.true_eq_false, reduceCtorEq, ne_eq]; done) | (simp [mkNumB, b15, eq_true c17]; done)
                rw [e18] at J13
                exact J13
              · skip
                refine lv_iload_n hx hb dX3_make_132 rfl (lv_at hl 2 rfl) ?_
                refine lv_bipush (v := 10) hx hb dX3_make_133 (by decide) ?_
                refine lv_icmp_ne (tgt := 142) hx hb dX3_make_135 (by decide) (fun c19 => ?_) (fun c19 => ?_)
                · skip
                  refine lv_iconst (v := 0) hx hb dX3_make_142 (by decide) ?_
                  have e20 : mkNumB k = 0 := by first | (simp only [mkNumB, b15, c17, c19, decide_true, decide_false, Bool.not_true, Bool.not_false, Bool.and_true, Bool.true_and, Bool.and_false, Bool.false_and, Bool.or_true, Bool.true_or, Bool.or_false, Bool.false_or, Bool.and_self, Bool.or_self, if_true, if_false, ite_true, ite_false, Bool.false_eq_true, reduceIte, not_true_eq_false, not_false_eq_true, and_true, true_and, and_false, false_and, or_true, true_or, or_false, false_or, and_self, or_self, eq_self, decide_eq_true_eq, Bool.true_eq_false, reduceCtorEq, ne_eq]; done) | (simp [mkNumB, b15, c17, c19]; done)
                  rw [e20] at J13
                  exact J13
                · skip
                  refine lv_iconst (v := 1) hx hb dX3_make_138 (by decide) ?_
                  refine lv_goto (tgt := 143) hx hb dX3_make_139 (by decide) ?_
                  have e21 : mkNumB k = 1 := by first | (simp only [mkNumB, b15, c17, c19, decide_true, decide_false, Bool.not_true, Bool.not_false, Bool.and_true, Bool.true_and, Bool.and_false, Bool.false_and, Bool.or_true, Bool.true_or, Bool.or_false, Bool.false_or, Bool.and_self, Bool.or_self, if_true, if_false, ite_true, ite_false, Bool.false_eq_true, reduceIte, not_true_eq_false, not_false_eq_true, and_true, true_and, and_false, false_and, or_true, true_or, or_false, false_or, and_self, or_self, eq_self, decide_eq_true_eq, Bool.true_eq_false, reduceCtorEq, ne_eq]; done) | (simp [mkNumB, b15, c17, c19]; done) | (simp only [mkNumB, b15, c17, eq_true c19, decide_true, decide_false, Bool.not_true, Bool.not_false, Bool.and_true, Bool.true_and, Bool.and_false, Bool.false_and, Bool.or_true, Bool.true_or, Bool.or_false, Bool.false_or, Bool.and_self, Bool.or_self, if_true, if_false, ite_true, ite_false, Bool.false_eq_true, reduceIte, not_true_eq_false, not_false_eq_true, and_true, true_and, and_false, false_and, or_true, true_or, or_false, false_or, and_self, or_self, eq_self, decide_eq_true_eq, Bool.true_eq_false, reduceCtorEq, ne_eq]; done) | (simp [mkNumB, b15, c17, eq_true c19]; done)
                  rw [e21] at J13
                  exact J13
            · replace hr14 : r14 = 1 := by rw [hr14, b15]; rfl
              subst hr14
              refine lv_if_ne (tgt := 138) hx hb dX3_make_123 (by decide) (fun _ => ?_) (fun c22 => absurd c22 (by decide))
              refine lv_iconst (v := 1) hx hb dX3_make_138 (by decide) ?_
              refine lv_goto (tgt := 143) hx hb dX3_make_139 (by decide) ?_
              have e23 : mkNumB k = 1 := by first | (simp only [mkNumB, b15, decide_true, decide_false, Bool.not_true, Bool.not_false, Bool.and_true, Bool.true_and, Bool.and_false, Bool.false_and, Bool.or_true, Bool.true_or, Bool.or_false, Bool.false_or, Bool.and_self, Bool.or_self, if_true, if_false, ite_true, ite_false, Bool.false_eq_true, reduceIte, not_true_eq_false, not_false_eq_true, and_true, true_and, and_false, false_and, or_true, true_or, or_false, false_or, and_self, or_self, eq_self, decide_eq_true_eq, Bool.true_eq_false, reduceCtorEq, ne_eq]; done) | (simp [mkNumB, b15]; done)
              rw [e23] at J13
              exact J13
          refine lv_istore (lv' := [(4, .int (mkNumB k)), (3, .int (mMany t)), (0, .ref (mO ad)), (1, .int k), (2, .int z)]) hx hb dX3_make_143 hl (by decide) rfl (fun ls hl => ?_)
          refine lv_aload_n hx hb dX3_make_145 rfl (lv_at hl 2 rfl) ?_
          refine va_get (D := D) (ci := 4) (v := .ref (mH ad 1)) (C := RX3) (T := TX3) (N := 19) hx hb hts iwX3 hown hK hP 0 rfl rfl 5 (by decide) (hts (.fieldLink RX3 20 "ObjectRowsModel" "numbers" "[I") (by decide +kernel)) (fun _ h9 => h9) rfl dX3_make_146 ?_
          refine lv_iload_n hx hb dX3_make_149 rfl (lv_at hl 1 rfl) ?_
          suffices J24 : W p l e ({ frames := 2, cells := 0, slots := 0, locals := 44 }) s m ([.ref (mO ad), .int k, .int z] : List Value).toArray below meth c H locs (0) (0) (MQ below (va_Qi (fun (ans : Int32) (u : MS) => ans = (fMake t k z c0 sv).1 ∧ u = (fMake t k z c0 sv).2) (wrB D A (fun u : MS => mW Y ad u)) A) ([.ref (mO ad), .int k, .int z] : List Value).toArray s (0) (0) A) (F0 m 160 ls [.int (mkNum k z (mMany t)), .int (mMany t), .ref (mH ad 1)]) by
            refine lv_iload hx hb dX3_make_150 (lv_at hl 0 rfl) ?_
            refine lv_if_eq (tgt := 159) hx hb dX3_make_152 (by decide) (fun c25 => ?_) (fun c25 => ?_)
            · skip
              refine lv_iload_n hx hb dX3_make_159 rfl (lv_at hl 1 rfl) ?_
              have e26 : mkNum k z (mMany t) = mMany t := by first | (simp only [mkNum, c25, decide_true, decide_false, Bool.not_true, Bool.not_false, Bool.and_true, Bool.true_and, Bool.and_false, Bool.false_and, Bool.or_true, Bool.true_or, Bool.or_false, Bool.false_or, Bool.and_self, Bool.or_self, if_true, if_false, ite_true, ite_false, Bool.false_eq_true, reduceIte, not_true_eq_false, not_false_eq_true, and_true, true_and, and_false, false_and, or_true, true_or, or_false, false_or, and_self, or_self, eq_self, decide_eq_true_eq, Bool.true_eq_false, reduceCtorEq, ne_eq]; done) | (simp [mkNum, c25]; done) | (simp only [mkNum, eq_true c25, decide_true, decide_false, Bool.not_true, Bool.not_false, Bool.and_true, Bool.true_and, Bool.and_false, Bool.false_and, Bool.or_true, Bool.true_or, Bool.or_false, Bool.false_or, Bool.and_self, Bool.or_self, if_true, if_false, ite_true, ite_false, Bool.false_eq_true, reduceIte, not_true_eq_false, not_false_eq_true, and_true, true_and, and_false, false_and, or_true, true_or, or_false, false_or, and_self, or_self, eq_self, decide_eq_true_eq, Bool.true_eq_false, reduceCtorEq, ne_eq]; done) | (simp [mkNum, eq_true c25]; done)
              rw [e26] at J24
              exact J24
            · skip
              refine lv_iload_n hx hb dX3_make_155 rfl (lv_at hl 4 rfl) ?_
              refine lv_goto (tgt := 160) hx hb dX3_make_156 (by decide) ?_
              have e27 : mkNum k z (mMany t) = z := by first | (simp only [mkNum, c25, decide_true, decide_false, Bool.not_true, Bool.not_false, Bool.and_true, Bool.true_and, Bool.and_false, Bool.false_and, Bool.or_true, Bool.true_or, Bool.or_false, Bool.false_or, Bool.and_self, Bool.or_self, if_true, if_false, ite_true, ite_false, Bool.false_eq_true, reduceIte, not_true_eq_false, not_false_eq_true, and_true, true_and, and_false, false_and, or_true, true_or, or_false, false_or, and_self, or_self, eq_self, decide_eq_true_eq, Bool.true_eq_false, reduceCtorEq, ne_eq]; done) | (simp [mkNum, c25]; done)
              rw [e27] at J24
              exact J24
          refine mAst1 (ad := ad) hx hb hK hP hD hS (hm c9) dX3_make_160 (fun H locs hP hD hS => ?_)
          refine lv_aload_n hx hb dX3_make_161 rfl (lv_at hl 2 rfl) ?_
          refine va_get (D := D) (ci := 4) (v := .ref (mH ad 3)) (C := RX3) (T := TX3) (N := 19) hx hb hts iwX3 hown hK hP 0 rfl rfl 7 (by decide) (hts (.fieldLink RX3 26 "ObjectRowsModel" "lengths" "[I") (by decide +kernel)) (fun _ h9 => h9) rfl dX3_make_162 ?_
          refine lv_iload_n hx hb dX3_make_165 rfl (lv_at hl 1 rfl) ?_
          suffices J28 : W p l e ({ frames := 2, cells := 0, slots := 0, locals := 44 }) s m ([.ref (mO ad), .int k, .int z] : List Value).toArray below meth c H locs (0) (0) (MQ below (va_Qi (fun (ans : Int32) (u : MS) => ans = (fMake t k z c0 sv).1 ∧ u = (fMake t k z c0 sv).2) (wrB D A (fun u : MS => mW Y ad u)) A) ([.ref (mO ad), .int k, .int z] : List Value).toArray s (0) (0) A) (F0 m 181 ls [.int (mkLen k z), .int (mMany t), .ref (mH ad 3)]) by
            refine lv_iload_n hx hb dX3_make_166 rfl (lv_at hl 3 rfl) ?_
            refine lv_iconst (v := 4) hx hb dX3_make_167 (by decide) ?_
            refine lv_bipush (v := 6) hx hb dX3_make_168 (by decide) ?_
            refine scI (As := [.int k, .int 4, .int 6]) (rest := [.int (mMany t), .ref (mH ad 3)]) ⟨hx, hb, hml, hown, hts⟩ (c_X3_within l k 4 6) (va_cwS 3 hts gX3_make_X3_within rfl rfl rfl hdX3_within ⟨Nat.le_of_ble_eq_true rfl, Nat.le_of_ble_eq_true rfl⟩) rfl hl.1 rfl (Nat.le_of_ble_eq_true rfl) dX3_make_170 ⟨(Nat.zero_le _), (Nat.zero_le _)⟩ (fun r29 hr29 => ?_)
            replace hr29 : r29 = bI (qWithin k 4 6) := hr29
            cases b30 : qWithin k 4 6
            · replace hr29 : r29 = 0 := by rw [hr29, b30]; rfl
              subst hr29
              refine lv_if_eq (tgt := 180) hx hb dX3_make_173 (by decide) (fun _ => ?_) (fun c31 => absurd (by decide) c31)
              refine lv_iconst (v := 0) hx hb dX3_make_180 (by decide) ?_
              have e32 : mkLen k z = 0 := by first | (simp only [mkLen, b30, decide_true, decide_false, Bool.not_true, Bool.not_false, Bool.and_true, Bool.true_and, Bool.and_false, Bool.false_and, Bool.or_true, Bool.true_or, Bool.or_false, Bool.false_or, Bool.and_self, Bool.or_self, if_true, if_false, ite_true, ite_false, Bool.false_eq_true, reduceIte, not_true_eq_false, not_false_eq_true, and_true, true_and, and_false, false_and, or_true, true_or, or_false, false_or, and_self, or_self, eq_self, decide_eq_true_eq, Bool.true_eq_false, reduceCtorEq, ne_eq]; done) | (simp [mkLen, b30]; done)
              rw [e32] at J28
              exact J28
            · replace hr29 : r29 = 1 := by rw [hr29, b30]; rfl
              subst hr29
              refine lv_if_eq (tgt := 180) hx hb dX3_make_173 (by decide) (fun c33 => absurd c33 (by decide)) (fun _ => ?_)
              refine lv_iload_n hx hb dX3_make_176 rfl (lv_at hl 4 rfl) ?_
              refine lv_goto (tgt := 181) hx hb dX3_make_177 (by decide) ?_
              have e34 : mkLen k z = z := by first | (simp only [mkLen, b30, decide_true, decide_false, Bool.not_true, Bool.not_false, Bool.and_true, Bool.true_and, Bool.and_false, Bool.false_and, Bool.or_true, Bool.true_or, Bool.or_false, Bool.false_or, Bool.and_self, Bool.or_self, if_true, if_false, ite_true, ite_false, Bool.false_eq_true, reduceIte, not_true_eq_false, not_false_eq_true, and_true, true_and, and_false, false_and, or_true, true_or, or_false, false_or, and_self, or_self, eq_self, decide_eq_true_eq, Bool.true_eq_false, reduceCtorEq, ne_eq]; done) | (simp [mkLen, b30]; done)
              rw [e34] at J28
              exact J28
          refine mAst3 (ad := ad) hx hb hK hP hD hS (hm c9) dX3_make_181 (fun H locs hP hD hS => ?_)
          refine lv_iconst (v := 0) hx hb dX3_make_182 (by decide) ?_
          refine lv_istore (lv' := [(5, .int 0), (4, .int (mkNumB k)), (3, .int (mMany t)), (0, .ref (mO ad)), (1, .int k), (2, .int z)]) hx hb dX3_make_183 hl (by decide) rfl (fun ls hl => ?_)
          have LP35 : ∀ (n q : Nat) (T : MS) (H : Heap) (locs : List Loc) (ls : Array Slot), q + n = 64 → T = zbS (mUp (mUp (fBlank (mSetThr t 0) (mMany t) k (fBlankV k)) 1 (mMany t) (mkNum k z (mMany t))) 3 (mMany t) (mkLen k z)) c0 q → va_P D vwCl (mW Y ad T) H → va_D A (mW Y ad T) → va_S A s.heap H locs → lv_has ls 6 [(5, .int (nI q)), (0, .ref (mO ad)), (1, .int k), (2, .int z), (3, .int (mMany t)), (4, .int (mkNumB k))] → W p l e ({ frames := 2, cells := 0, slots := 0, locals := 44 }) s m ([.ref (mO ad), .int k, .int z] : List Value).toArray below meth c H locs (0) (0) (MQ below (va_Qi (fun (ans : Int32) (u : MS) => ans = (fMake t k z c0 sv).1 ∧ u = (fMake t k z c0 sv).2) (wrB D A (fun u : MS => mW Y ad u)) A) ([.ref (mO ad), .int k, .int z] : List Value).toArray s (0) (0) A) (F0 m 185 ls []) := by
            intro n
            induction n with
            | zero =>
              intro q T H locs ls hz hT hP hD hS hl
              obtain rfl : q = 64 := by omega
              subst hT
              have c36 : (64 : Int32) ≤ nI 64 := by decide
              refine lv_iload hx hb dX3_make_185 (lv_at hl 0 rfl) ?_
              refine lv_bipush (v := 64) hx hb dX3_make_187 (by decide) ?_
              refine lv_icmp_ge (tgt := 211) hx hb dX3_make_189 (by decide) (fun _ => ?_) (fun c37 => absurd c36 c37)
              refine lv_iconst (v := 0) hx hb dX3_make_211 (by decide) ?_
              refine lv_istore (lv' := [(5, .int 0), (0, .ref (mO ad)), (1, .int k), (2, .int z), (3, .int (mMany t)), (4, .int (mkNumB k))]) hx hb dX3_make_212 hl (by decide) rfl (fun ls hl => ?_)
              have LP38 : ∀ (n q : Nat) (T : MS) (H : Heap) (locs : List Loc) (ls : Array Slot), q + n = 32 → T = elS k z (mMany t) (zbS (mUp (mUp (fBlank (mSetThr t 0) (mMany t) k (fBlankV k)) 1 (mMany t) (mkNum k z (mMany t))) 3 (mMany t) (mkLen k z)) c0 64) c0 q → va_P D vwCl (mW Y ad T) H → va_D A (mW Y ad T) → va_S A s.heap H locs → lv_has ls 6 [(5, .int (nI q)), (0, .ref (mO ad)), (1, .int k), (2, .int z), (3, .int (mMany t)), (4, .int (mkNumB k))] → W p l e ({ frames := 2, cells := 0, slots := 0, locals := 44 }) s m ([.ref (mO ad), .int k, .int z] : List Value).toArray below meth c H locs (0) (0) (MQ below (va_Qi (fun (ans : Int32) (u : MS) => ans = (fMake t k z c0 sv).1 ∧ u = (fMake t k z c0 sv).2) (wrB D A (fun u : MS => mW Y ad u)) A) ([.ref (mO ad), .int k, .int z] : List Value).toArray s (0) (0) A) (F0 m 214 ls []) := by
                intro n
                induction n with
                | zero =>
                  intro q T H locs ls hz hT hP hD hS hl
                  obtain rfl : q = 32 := by omega
                  subst hT
                  have c39 : (32 : Int32) ≤ nI 32 := by decide
                  refine lv_iload hx hb dX3_make_214 (lv_at hl 0 rfl) ?_
                  refine lv_bipush (v := 32) hx hb dX3_make_216 (by decide) ?_
                  refine lv_icmp_ge (tgt := 261) hx hb dX3_make_218 (by decide) (fun _ => ?_) (fun c40 => absurd c39 c40)
                  refine lv_aload_n hx hb dX3_make_261 rfl (lv_at hl 1 rfl) ?_
                  refine va_get (D := D) (ci := 4) (v := .ref (mH ad 8)) (C := RX3) (T := TX3) (N := 19) hx hb hts iwX3 hown hK hP 0 rfl rfl 12 (by decide) (hts (.fieldLink RX3 43 "ObjectRowsModel" "capacities" "[I") (by decide +kernel)) (fun _ h9 => h9) rfl dX3_make_262 ?_
                  refine lv_iload_n hx hb dX3_make_265 rfl (lv_at hl 4 rfl) ?_
                  suffices J41 : W p l e ({ frames := 2, cells := 0, slots := 0, locals := 44 }) s m ([.ref (mO ad), .int k, .int z] : List Value).toArray below meth c H locs (0) (0) (MQ below (va_Qi (fun (ans : Int32) (u : MS) => ans = (fMake t k z c0 sv).1 ∧ u = (fMake t k z c0 sv).2) (wrB D A (fun u : MS => mW Y ad u)) A) ([.ref (mO ad), .int k, .int z] : List Value).toArray s (0) (0) A) (F0 m 277 ls [.int (mkCap k z), .int (mMany t), .ref (mH ad 8)]) by
                    refine lv_iload_n hx hb dX3_make_266 rfl (lv_at hl 2 rfl) ?_
                    refine lv_bipush (v := 7) hx hb dX3_make_267 (by decide) ?_
                    refine lv_icmp_ne (tgt := 276) hx hb dX3_make_269 (by decide) (fun c42 => ?_) (fun c42 => ?_)
                    · skip
                      refine lv_iconst (v := 0) hx hb dX3_make_276 (by decide) ?_
                      have e43 : mkCap k z = 0 := by first | (simp only [mkCap, c42, decide_true, decide_false, Bool.not_true, Bool.not_false, Bool.and_true, Bool.true_and, Bool.and_false, Bool.false_and, Bool.or_true, Bool.true_or, Bool.or_false, Bool.false_or, Bool.and_self, Bool.or_self, if_true, if_false, ite_true, ite_false, Bool.false_eq_true, reduceIte, not_true_eq_false, not_false_eq_true, and_true, true_and, and_false, false_and, or_true, true_or, or_false, false_or, and_self, or_self, eq_self, decide_eq_true_eq, Bool.true_eq_false, reduceCtorEq, ne_eq]; done) | (simp [mkCap, c42]; done)
                      rw [e43] at J41
                      exact J41
                    · skip
                      refine lv_iload_n hx hb dX3_make_272 rfl (lv_at hl 3 rfl) ?_
                      refine lv_goto (tgt := 277) hx hb dX3_make_273 (by decide) ?_
                      have e44 : mkCap k z = z := by first | (simp only [mkCap, c42, decide_true, decide_false, Bool.not_true, Bool.not_false, Bool.and_true, Bool.true_and, Bool.and_false, Bool.false_and, Bool.or_true, Bool.true_or, Bool.or_false, Bool.false_or, Bool.and_self, Bool.or_self, if_true, if_false, ite_true, ite_false, Bool.false_eq_true, reduceIte, not_true_eq_false, not_false_eq_true, and_true, true_and, and_false, false_and, or_true, true_or, or_false, false_or, and_self, or_self, eq_self, decide_eq_true_eq, Bool.true_eq_false, reduceCtorEq, ne_eq]; done) | (simp [mkCap, c42]; done) | (simp only [mkCap, eq_true c42, decide_true, decide_false, Bool.not_true, Bool.not_false, Bool.and_true, Bool.true_and, Bool.and_false, Bool.false_and, Bool.or_true, Bool.true_or, Bool.or_false, Bool.false_or, Bool.and_self, Bool.or_self, if_true, if_false, ite_true, ite_false, Bool.false_eq_true, reduceIte, not_true_eq_false, not_false_eq_true, and_true, true_and, and_false, false_and, or_true, true_or, or_false, false_or, and_self, or_self, eq_self, decide_eq_true_eq, Bool.true_eq_false, reduceCtorEq, ne_eq]; done) | (simp [mkCap, eq_true c42]; done)
                      rw [e44] at J41
                      exact J41
                  refine mAst8 (ad := ad) hx hb hK hP hD hS (in400 (hm c9)) dX3_make_277 (fun H locs hP hD hS => ?_)
                  refine lv_aload_n hx hb dX3_make_278 rfl (lv_at hl 1 rfl) ?_
                  refine va_get (D := D) (ci := 4) (v := .ref (mH ad 9)) (C := RX3) (T := TX3) (N := 19) hx hb hts iwX3 hown hK hP 0 rfl rfl 13 (by decide) (hts (.fieldLink RX3 46 "ObjectRowsModel" "grows" "[Z") (by decide +kernel)) (fun _ h9 => h9) rfl dX3_make_279 ?_
                  refine lv_iload_n hx hb dX3_make_282 rfl (lv_at hl 4 rfl) ?_
                  refine lv_iconst (v := 0) hx hb dX3_make_283 (by decide) ?_
                  refine mAst9 (ad := ad) hx hb hK hP hD hS (in400 (hm c9)) dX3_make_284 (fun H locs hP hD hS => ?_)
                  refine lv_aload_n hx hb dX3_make_285 rfl (lv_at hl 1 rfl) ?_
                  refine va_get (D := D) (ci := 4) (v := .ref (mH ad 10)) (C := RX3) (T := TX3) (N := 19) hx hb hts iwX3 hown hK hP 0 rfl rfl 14 (by decide) (hts (.fieldLink RX3 49 "ObjectRowsModel" "entries" "[I") (by decide +kernel)) (fun _ h9 => h9) rfl dX3_make_286 ?_
                  refine lv_iload_n hx hb dX3_make_289 rfl (lv_at hl 4 rfl) ?_
                  refine lv_iconst (v := 0) hx hb dX3_make_290 (by decide) ?_
                  refine mAst10 (ad := ad) hx hb hK hP hD hS (in400 (hm c9)) dX3_make_291 (fun H locs hP hD hS => ?_)
                  refine lv_aload_n hx hb dX3_make_292 rfl (lv_at hl 1 rfl) ?_
                  refine lv_dup hx hb dX3_make_293 rfl ?_
                  refine va_get (D := D) (ci := 4) (v := .int (mUsed (mUp (mUp (mUp (elS k z (mMany t) (zbS (mUp (mUp (fBlank (mSetThr t 0) (mMany t) k (fBlankV k)) 1 (mMany t) (mkNum k z (mMany t))) 3 (mMany t) (mkLen k z)) c0 64) c0 32) 8 (mMany t) (mkCap k z)) 9 (mMany t) (vp_nar .boolean 0)) 10 (mMany t) 0))) (C := RX3) (T := TX3) (N := 19) hx hb hts iwX3 hown hK hP 0 rfl rfl 2 (by decide) (hts (.fieldLink RX3 13 "ObjectRowsModel" "used" "I") (by decide +kernel)) (fun _ h9 => h9) rfl dX3_make_294 ?_
                  refine lv_topi (fun y45 ey45 => ?_)
                  obtain rfl : y45 = mUsed t := ey45.trans (flUsed_up.trans (flUsed_up.trans (flUsed_up.trans (flUsed_el.trans (flUsed_zb.trans (flUsed_up.trans (flUsed_up.trans (flUsed_blank.trans (flUsed_thr)))))))))
                  refine lv_bipush (v := 8) hx hb dX3_make_297 (by decide) ?_
                  suffices J46 : W p l e ({ frames := 2, cells := 0, slots := 0, locals := 44 }) s m ([.ref (mO ad), .int k, .int z] : List Value).toArray below meth c H locs (0) (0) (MQ below (va_Qi (fun (ans : Int32) (u : MS) => ans = (fMake t k z c0 sv).1 ∧ u = (fMake t k z c0 sv).2) (wrB D A (fun u : MS => mW Y ad u)) A) ([.ref (mO ad), .int k, .int z] : List Value).toArray s (0) (0) A) (F0 m 346 ls [.int (mkCost k z), .int 8, .int (mUsed t), .ref (mO ad)]) by
                    refine lv_iload_n hx hb dX3_make_299 rfl (lv_at hl 2 rfl) ?_
                    refine lv_iconst (v := 4) hx hb dX3_make_300 (by decide) ?_
                    refine lv_icmp_ne (tgt := 308) hx hb dX3_make_301 (by decide) (fun c47 => ?_) (fun c47 => ?_)
                    · skip
                      refine lv_iload_n hx hb dX3_make_308 rfl (lv_at hl 2 rfl) ?_
                      refine lv_iconst (v := 5) hx hb dX3_make_309 (by decide) ?_
                      refine lv_icmp_ne (tgt := 320) hx hb dX3_make_310 (by decide) (fun c48 => ?_) (fun c48 => ?_)
                      · skip
                        refine lv_iload_n hx hb dX3_make_320 rfl (lv_at hl 2 rfl) ?_
                        refine lv_bipush (v := 6) hx hb dX3_make_321 (by decide) ?_
                        refine lv_icmp_ne (tgt := 332) hx hb dX3_make_323 (by decide) (fun c49 => ?_) (fun c49 => ?_)
                        · skip
                          refine lv_iload_n hx hb dX3_make_332 rfl (lv_at hl 2 rfl) ?_
                          refine lv_bipush (v := 7) hx hb dX3_make_333 (by decide) ?_
                          refine lv_icmp_ne (tgt := 345) hx hb dX3_make_335 (by decide) (fun c50 => ?_) (fun c50 => ?_)
                          · skip
                            refine lv_iconst (v := 0) hx hb dX3_make_345 (by decide) ?_
                            have e51 : mkCost k z = 0 := by first | (simp only [mkCost, c47, c48, c49, c50, decide_true, decide_false, Bool.not_true, Bool.not_false, Bool.and_true, Bool.true_and, Bool.and_false, Bool.false_and, Bool.or_true, Bool.true_or, Bool.or_false, Bool.false_or, Bool.and_self, Bool.or_self, if_true, if_false, ite_true, ite_false, Bool.false_eq_true, reduceIte, not_true_eq_false, not_false_eq_true, and_true, true_and, and_false, false_and, or_true, true_or, or_false, false_or, and_self, or_self, eq_self, decide_eq_true_eq, Bool.true_eq_false, reduceCtorEq, ne_eq]; done) | (simp [mkCost, c47, c48, c49, c50]; done)
                            rw [e51] at J46
                            exact J46
                          · skip
                            refine lv_bipush (v := 16) hx hb dX3_make_338 (by decide) ?_
                            refine lv_iload_n hx hb dX3_make_340 rfl (lv_at hl 3 rfl) ?_
                            refine lv_imul hx hb dX3_make_341 ?_
                            refine lv_goto (tgt := 346) hx hb dX3_make_342 (by decide) ?_
                            have e52 : mkCost k z = 16 * z := by first | (simp only [mkCost, c47, c48, c49, c50, decide_true, decide_false, Bool.not_true, Bool.not_false, Bool.and_true, Bool.true_and, Bool.and_false, Bool.false_and, Bool.or_true, Bool.true_or, Bool.or_false, Bool.false_or, Bool.and_self, Bool.or_self, if_true, if_false, ite_true, ite_false, Bool.false_eq_true, reduceIte, not_true_eq_false, not_false_eq_true, and_true, true_and, and_false, false_and, or_true, true_or, or_false, false_or, and_self, or_self, eq_self, decide_eq_true_eq, Bool.true_eq_false, reduceCtorEq, ne_eq]; done) | (simp [mkCost, c47, c48, c49, c50]; done) | (simp only [mkCost, c47, c48, c49, eq_true c50, decide_true, decide_false, Bool.not_true, Bool.not_false, Bool.and_true, Bool.true_and, Bool.and_false, Bool.false_and, Bool.or_true, Bool.true_or, Bool.or_false, Bool.false_or, Bool.and_self, Bool.or_self, if_true, if_false, ite_true, ite_false, Bool.false_eq_true, reduceIte, not_true_eq_false, not_false_eq_true, and_true, true_and, and_false, false_and, or_true, true_or, or_false, false_or, and_self, or_self, eq_self, decide_eq_true_eq, Bool.true_eq_false, reduceCtorEq, ne_eq]; done) | (simp [mkCost, c47, c48, c49, eq_true c50]; done)
                            rw [e52] at J46
                            exact J46
                        · skip
                          refine lv_iconst (v := 4) hx hb dX3_make_326 (by decide) ?_
                          refine lv_iload_n hx hb dX3_make_327 rfl (lv_at hl 3 rfl) ?_
                          refine lv_imul hx hb dX3_make_328 ?_
                          refine lv_goto (tgt := 346) hx hb dX3_make_329 (by decide) ?_
                          have e53 : mkCost k z = 4 * z := by first | (simp only [mkCost, c47, c48, c49, decide_true, decide_false, Bool.not_true, Bool.not_false, Bool.and_true, Bool.true_and, Bool.and_false, Bool.false_and, Bool.or_true, Bool.true_or, Bool.or_false, Bool.false_or, Bool.and_self, Bool.or_self, if_true, if_false, ite_true, ite_false, Bool.false_eq_true, reduceIte, not_true_eq_false, not_false_eq_true, and_true, true_and, and_false, false_and, or_true, true_or, or_false, false_or, and_self, or_self, eq_self, decide_eq_true_eq, Bool.true_eq_false, reduceCtorEq, ne_eq]; done) | (simp [mkCost, c47, c48, c49]; done) | (simp only [mkCost, c47, c48, eq_true c49, decide_true, decide_false, Bool.not_true, Bool.not_false, Bool.and_true, Bool.true_and, Bool.and_false, Bool.false_and, Bool.or_true, Bool.true_or, Bool.or_false, Bool.false_or, Bool.and_self, Bool.or_self, if_true, if_false, ite_true, ite_false, Bool.false_eq_true, reduceIte, not_true_eq_false, not_false_eq_true, and_true, true_and, and_false, false_and, or_true, true_or, or_false, false_or, and_self, or_self, eq_self, decide_eq_true_eq, Bool.true_eq_false, reduceCtorEq, ne_eq]; done) | (simp [mkCost, c47, c48, eq_true c49]; done)
                          rw [e53] at J46
                          exact J46
                      · skip
                        refine lv_bipush (v := 8) hx hb dX3_make_313 (by decide) ?_
                        refine lv_iload_n hx hb dX3_make_315 rfl (lv_at hl 3 rfl) ?_
                        refine lv_imul hx hb dX3_make_316 ?_
                        refine lv_goto (tgt := 346) hx hb dX3_make_317 (by decide) ?_
                        have e54 : mkCost k z = 8 * z := by first | (simp only [mkCost, c47, c48, decide_true, decide_false, Bool.not_true, Bool.not_false, Bool.and_true, Bool.true_and, Bool.and_false, Bool.false_and, Bool.or_true, Bool.true_or, Bool.or_false, Bool.false_or, Bool.and_self, Bool.or_self, if_true, if_false, ite_true, ite_false, Bool.false_eq_true, reduceIte, not_true_eq_false, not_false_eq_true, and_true, true_and, and_false, false_and, or_true, true_or, or_false, false_or, and_self, or_self, eq_self, decide_eq_true_eq, Bool.true_eq_false, reduceCtorEq, ne_eq]; done) | (simp [mkCost, c47, c48]; done) | (simp only [mkCost, c47, eq_true c48, decide_true, decide_false, Bool.not_true, Bool.not_false, Bool.and_true, Bool.true_and, Bool.and_false, Bool.false_and, Bool.or_true, Bool.true_or, Bool.or_false, Bool.false_or, Bool.and_self, Bool.or_self, if_true, if_false, ite_true, ite_false, Bool.false_eq_true, reduceIte, not_true_eq_false, not_false_eq_true, and_true, true_and, and_false, false_and, or_true, true_or, or_false, false_or, and_self, or_self, eq_self, decide_eq_true_eq, Bool.true_eq_false, reduceCtorEq, ne_eq]; done) | (simp [mkCost, c47, eq_true c48]; done)
                        rw [e54] at J46
                        exact J46
                    · skip
                      refine lv_iload_n hx hb dX3_make_304 rfl (lv_at hl 3 rfl) ?_
                      refine lv_goto (tgt := 346) hx hb dX3_make_305 (by decide) ?_
                      have e55 : mkCost k z = z := by first | (simp only [mkCost, c47, decide_true, decide_false, Bool.not_true, Bool.not_false, Bool.and_true, Bool.true_and, Bool.and_false, Bool.false_and, Bool.or_true, Bool.true_or, Bool.or_false, Bool.false_or, Bool.and_self, Bool.or_self, if_true, if_false, ite_true, ite_false, Bool.false_eq_true, reduceIte, not_true_eq_false, not_false_eq_true, and_true, true_and, and_false, false_and, or_true, true_or, or_false, false_or, and_self, or_self, eq_self, decide_eq_true_eq, Bool.true_eq_false, reduceCtorEq, ne_eq]; done) | (simp [mkCost, c47]; done) | (simp only [mkCost, eq_true c47, decide_true, decide_false, Bool.not_true, Bool.not_false, Bool.and_true, Bool.true_and, Bool.and_false, Bool.false_and, Bool.or_true, Bool.true_or, Bool.or_false, Bool.false_or, Bool.and_self, Bool.or_self, if_true, if_false, ite_true, ite_false, Bool.false_eq_true, reduceIte, not_true_eq_false, not_false_eq_true, and_true, true_and, and_false, false_and, or_true, true_or, or_false, false_or, and_self, or_self, eq_self, decide_eq_true_eq, Bool.true_eq_false, reduceCtorEq, ne_eq]; done) | (simp [mkCost, eq_true c47]; done)
                      rw [e55] at J46
                      exact J46
                  refine lv_iadd hx hb dX3_make_346 ?_
                  refine lv_iadd hx hb dX3_make_347 ?_
                  refine mFput2 (ad := ad) hx hb hts iwX3 hown hK hP hD hS (hts (.fieldLink RX3 13 "ObjectRowsModel" "used" "I") (by decide +kernel)) dX3_make_348 (fun H locs hP hD hS => ?_)
                  refine lv_aload_n hx hb dX3_make_351 rfl (lv_at hl 1 rfl) ?_
                  refine lv_dup hx hb dX3_make_352 rfl ?_
                  refine va_get (D := D) (ci := 4) (v := .int (mMany (mSetUsed (mUp (mUp (mUp (elS k z (mMany t) (zbS (mUp (mUp (fBlank (mSetThr t 0) (mMany t) k (fBlankV k)) 1 (mMany t) (mkNum k z (mMany t))) 3 (mMany t) (mkLen k z)) c0 64) c0 32) 8 (mMany t) (mkCap k z)) 9 (mMany t) (vp_nar .boolean 0)) 10 (mMany t) 0) ((mUsed t) + (8 + (mkCost k z)))))) (C := RX3) (T := TX3) (N := 19) hx hb hts iwX3 hown hK hP 0 rfl rfl 1 (by decide) (hts (.fieldLink RX3 7 "ObjectRowsModel" "many" "I") (by decide +kernel)) (fun _ h9 => h9) rfl dX3_make_353 ?_
                  refine lv_topi (fun y56 ey56 => ?_)
                  obtain rfl : y56 = mMany t := ey56.trans (flMany_used.trans (flMany_up.trans (flMany_up.trans (flMany_up.trans (flMany_el.trans (flMany_zb.trans (flMany_up.trans (flMany_up.trans (flMany_blank.trans (flMany_thr))))))))))
                  refine lv_iconst (v := 1) hx hb dX3_make_356 (by decide) ?_
                  refine lv_iadd hx hb dX3_make_357 ?_
                  refine mFput1 (ad := ad) hx hb hts iwX3 hown hK hP hD hS (hts (.fieldLink RX3 7 "ObjectRowsModel" "many" "I") (by decide +kernel)) dX3_make_358 (fun H locs hP hD hS => ?_)
                  refine lv_iload_n hx hb dX3_make_361 rfl (lv_at hl 4 rfl) ?_
                  refine W.widen (k := 0) (n := 0) (by omega) (by omega) ?_
                  exact weI (wf := fun u : MS => mW Y ad u) (mSetMany (mSetUsed (mUp (mUp (mUp (elS k z (mMany t) (zbS (mUp (mUp (fBlank (mSetThr t 0) (mMany t) k (fBlankV k)) 1 (mMany t) (mkNum k z (mMany t))) 3 (mMany t) (mkLen k z)) c0 64) c0 32) 8 (mMany t) (mkCap k z)) 9 (mMany t) (vp_nar .boolean 0)) 10 (mMany t) 0) ((mUsed t) + (8 + (mkCost k z)))) ((mMany t) + 1)) hx hb hr hlocks hP hD hS dX3_make_362 (⟨by simp only [fMake, fMakeS, fMkSave, b2, b6, c9, c10, decide_true, decide_false, Bool.not_true, Bool.not_false, Bool.and_true, Bool.true_and, Bool.and_false, Bool.false_and, Bool.or_true, Bool.true_or, Bool.or_false, Bool.false_or, Bool.and_self, Bool.or_self, if_true, if_false, ite_true, ite_false, Bool.false_eq_true, reduceIte, not_true_eq_false, not_false_eq_true, and_true, true_and, and_false, false_and, or_true, true_or, or_false, false_or, and_self, or_self, eq_self, decide_eq_true_eq, Bool.true_eq_false, reduceCtorEq, ne_eq], by simp only [fMake, fMakeS, fMkSave, b2, b6, c9, c10, decide_true, decide_false, Bool.not_true, Bool.not_false, Bool.and_true, Bool.true_and, Bool.and_false, Bool.false_and, Bool.or_true, Bool.true_or, Bool.or_false, Bool.false_or, Bool.and_self, Bool.or_self, if_true, if_false, ite_true, ite_false, Bool.false_eq_true, reduceIte, not_true_eq_false, not_false_eq_true, and_true, true_and, and_false, false_and, or_true, true_or, or_false, false_or, and_self, or_self, eq_self, decide_eq_true_eq, Bool.true_eq_false, reduceCtorEq, ne_eq]⟩)
                | succ n ih =>
                  intro q T H locs ls hz hT hP hD hS hl
                  have c57 : ¬ (32 : Int32) ≤ nI q := ltN (N := 32) (by omega) rfl (by omega)
                  refine lv_iload hx hb dX3_make_214 (lv_at hl 0 rfl) ?_
                  refine lv_bipush (v := 32) hx hb dX3_make_216 (by decide) ?_
                  refine lv_icmp_ge (tgt := 261) hx hb dX3_make_218 (by decide) (fun c58 => absurd c58 c57) (fun _ => ?_)
                  refine lv_aload_n hx hb dX3_make_221 rfl (lv_at hl 1 rfl) ?_
                  refine va_get (D := D) (ci := 4) (v := .ref (mH ad 7)) (C := RX3) (T := TX3) (N := 19) hx hb hts iwX3 hown hK hP 0 rfl rfl 11 (by decide) (hts (.fieldLink RX3 40 "ObjectRowsModel" "elements" "[I") (by decide +kernel)) (fun _ h9 => h9) rfl dX3_make_222 ?_
                  refine lv_bipush (v := 32) hx hb dX3_make_225 (by decide) ?_
                  refine lv_iload_n hx hb dX3_make_227 rfl (lv_at hl 4 rfl) ?_
                  refine lv_imul hx hb dX3_make_228 ?_
                  refine lv_iload hx hb dX3_make_229 (lv_at hl 0 rfl) ?_
                  refine lv_iadd hx hb dX3_make_231 ?_
                  suffices J59 : W p l e ({ frames := 2, cells := 0, slots := 0, locals := 44 }) s m ([.ref (mO ad), .int k, .int z] : List Value).toArray below meth c H locs (0) (0) (MQ below (va_Qi (fun (ans : Int32) (u : MS) => ans = (fMake t k z c0 sv).1 ∧ u = (fMake t k z c0 sv).2) (wrB D A (fun u : MS => mW Y ad u)) A) ([.ref (mO ad), .int k, .int z] : List Value).toArray s (0) (0) A) (F0 m 254 ls [.int (mkEl k z (mMany t) (nI q)), .int ((32 * (mMany t)) + (nI q)), .ref (mH ad 7)]) by
                    refine lv_iload_n hx hb dX3_make_232 rfl (lv_at hl 2 rfl) ?_
                    refine lv_bipush (v := 6) hx hb dX3_make_233 (by decide) ?_
                    refine lv_icmp_ne (tgt := 253) hx hb dX3_make_235 (by decide) (fun c60 => ?_) (fun c60 => ?_)
                    · skip
                      refine lv_iconst (v := 0) hx hb dX3_make_253 (by decide) ?_
                      have e61 : mkEl k z (mMany t) (nI q) = 0 := by first | (simp only [mkEl, c60, decide_true, decide_false, Bool.not_true, Bool.not_false, Bool.and_true, Bool.true_and, Bool.and_false, Bool.false_and, Bool.or_true, Bool.true_or, Bool.or_false, Bool.false_or, Bool.and_self, Bool.or_self, if_true, if_false, ite_true, ite_false, Bool.false_eq_true, reduceIte, not_true_eq_false, not_false_eq_true, and_true, true_and, and_false, false_and, or_true, true_or, or_false, false_or, and_self, or_self, eq_self, decide_eq_true_eq, Bool.true_eq_false, reduceCtorEq, ne_eq]; done) | (simp [mkEl, c60]; done)
                      rw [e61] at J59
                      exact J59
                    · skip
                      refine lv_iload hx hb dX3_make_238 (lv_at hl 0 rfl) ?_
                      refine lv_iload_n hx hb dX3_make_240 rfl (lv_at hl 3 rfl) ?_
                      refine lv_icmp_ge (tgt := 253) hx hb dX3_make_241 (by decide) (fun c62 => ?_) (fun c62 => ?_)
                      · skip
                        refine lv_iconst (v := 0) hx hb dX3_make_253 (by decide) ?_
                        have e63 : mkEl k z (mMany t) (nI q) = 0 := by first | (simp only [mkEl, c60, c62, decide_true, decide_false, Bool.not_true, Bool.not_false, Bool.and_true, Bool.true_and, Bool.and_false, Bool.false_and, Bool.or_true, Bool.true_or, Bool.or_false, Bool.false_or, Bool.and_self, Bool.or_self, if_true, if_false, ite_true, ite_false, Bool.false_eq_true, reduceIte, not_true_eq_false, not_false_eq_true, and_true, true_and, and_false, false_and, or_true, true_or, or_false, false_or, and_self, or_self, eq_self, decide_eq_true_eq, Bool.true_eq_false, reduceCtorEq, ne_eq]; done) | (simp [mkEl, c60, c62, Int32.not_lt.mpr c62]; done) | (simp only [mkEl, eq_true c60, c62, decide_true, decide_false, Bool.not_true, Bool.not_false, Bool.and_true, Bool.true_and, Bool.and_false, Bool.false_and, Bool.or_true, Bool.true_or, Bool.or_false, Bool.false_or, Bool.and_self, Bool.or_self, if_true, if_false, ite_true, ite_false, Bool.false_eq_true, reduceIte, not_true_eq_false, not_false_eq_true, and_true, true_and, and_false, false_and, or_true, true_or, or_false, false_or, and_self, or_self, eq_self, decide_eq_true_eq, Bool.true_eq_false, reduceCtorEq, ne_eq]; done) | (simp [mkEl, eq_true c60, c62, Int32.not_lt.mpr c62]; done)
                        rw [e63] at J59
                        exact J59
                      · skip
                        refine lv_iload_n hx hb dX3_make_244 rfl (lv_at hl 4 rfl) ?_
                        refine lv_iload_n hx hb dX3_make_245 rfl (lv_at hl 3 rfl) ?_
                        refine lv_isub hx hb dX3_make_246 ?_
                        refine lv_iload hx hb dX3_make_247 (lv_at hl 0 rfl) ?_
                        refine lv_iadd hx hb dX3_make_249 ?_
                        refine lv_goto (tgt := 254) hx hb dX3_make_250 (by decide) ?_
                        have e64 : mkEl k z (mMany t) (nI q) = ((mMany t) - z) + (nI q) := by first | (simp only [mkEl, c60, c62, decide_true, decide_false, Bool.not_true, Bool.not_false, Bool.and_true, Bool.true_and, Bool.and_false, Bool.false_and, Bool.or_true, Bool.true_or, Bool.or_false, Bool.false_or, Bool.and_self, Bool.or_self, if_true, if_false, ite_true, ite_false, Bool.false_eq_true, reduceIte, not_true_eq_false, not_false_eq_true, and_true, true_and, and_false, false_and, or_true, true_or, or_false, false_or, and_self, or_self, eq_self, decide_eq_true_eq, Bool.true_eq_false, reduceCtorEq, ne_eq]; done) | (simp [mkEl, c60, c62, Int32.not_le.mp c62]; done) | (simp only [mkEl, eq_true c60, c62, decide_true, decide_false, Bool.not_true, Bool.not_false, Bool.and_true, Bool.true_and, Bool.and_false, Bool.false_and, Bool.or_true, Bool.true_or, Bool.or_false, Bool.false_or, Bool.and_self, Bool.or_self, if_true, if_false, ite_true, ite_false, Bool.false_eq_true, reduceIte, not_true_eq_false, not_false_eq_true, and_true, true_and, and_false, false_and, or_true, true_or, or_false, false_or, and_self, or_self, eq_self, decide_eq_true_eq, Bool.true_eq_false, reduceCtorEq, ne_eq]; done) | (simp [mkEl, eq_true c60, c62, Int32.not_le.mp c62]; done)
                        rw [e64] at J59
                        exact J59
                  refine mAst7 (ad := ad) hx hb hK hP hD hS (by rw [hmc]; exact ixI (w := 32) (a := c0) (z := q) (N := 12800) rfl rfl (by have := hc100 c9; omega) (by omega)) dX3_make_254 (fun H locs hP hD hS => ?_)
                  obtain ⟨z65, ez65⟩ : ∃ y : Int32, y = nI q + 1 := ⟨_, rfl⟩
                  refine lv_iinc (v := z65) (lv' := [(5, .int z65), (0, .ref (mO ad)), (1, .int k), (2, .int z), (3, .int (mMany t)), (4, .int (mkNumB k))]) hx hb dX3_make_255 hl (k := 0) rfl (by rw [ez65]; rfl) (by decide) rfl (fun ls hl => ?_)
                  refine lv_goto (tgt := 214) hx hb dX3_make_258 (by decide) ?_
                  obtain rfl : z65 = nI (q + 1) := ez65.trans (nI_1 q)
                  exact ih (q + 1) _ _ _ _ (by omega) (by subst hT; exact elStep hmc (hc100 c9) (by omega)) hP hD hS (lv_sub hl [0, 1, 2, 3, 4, 5] rfl)
              exact LP38 32 0 _ _ _ _ (by omega) (el0 _ _ _ _ _) hP hD hS (by first | exact lv_sub hl [0, 1, 2, 3, 4, 5] rfl | (rw [nI_0]; exact lv_sub hl [0, 1, 2, 3, 4, 5] rfl))
            | succ n ih =>
              intro q T H locs ls hz hT hP hD hS hl
              have c66 : ¬ (64 : Int32) ≤ nI q := ltN (N := 64) (by omega) rfl (by omega)
              refine lv_iload hx hb dX3_make_185 (lv_at hl 0 rfl) ?_
              refine lv_bipush (v := 64) hx hb dX3_make_187 (by decide) ?_
              refine lv_icmp_ge (tgt := 211) hx hb dX3_make_189 (by decide) (fun c67 => absurd c67 c66) (fun _ => ?_)
              refine lv_aload_n hx hb dX3_make_192 rfl (lv_at hl 1 rfl) ?_
              refine va_get (D := D) (ci := 4) (v := .ref (mH ad 4)) (C := RX3) (T := TX3) (N := 19) hx hb hts iwX3 hown hK hP 0 rfl rfl 8 (by decide) (hts (.fieldLink RX3 29 "ObjectRowsModel" "bytes" "[B") (by decide +kernel)) (fun _ h9 => h9) rfl dX3_make_193 ?_
              refine lv_bipush (v := 64) hx hb dX3_make_196 (by decide) ?_
              refine lv_iload_n hx hb dX3_make_198 rfl (lv_at hl 4 rfl) ?_
              refine lv_imul hx hb dX3_make_199 ?_
              refine lv_iload hx hb dX3_make_200 (lv_at hl 0 rfl) ?_
              refine lv_iadd hx hb dX3_make_202 ?_
              refine lv_iconst (v := 0) hx hb dX3_make_203 (by decide) ?_
              refine mAst4 (ad := ad) hx hb hK hP hD hS (by rw [hmc]; exact ixI (w := 64) (a := c0) (z := q) (N := 6400) rfl rfl (by have := hc100 c9; omega) (by omega)) dX3_make_204 (fun H locs hP hD hS => ?_)
              obtain ⟨z68, ez68⟩ : ∃ y : Int32, y = nI q + 1 := ⟨_, rfl⟩
              refine lv_iinc (v := z68) (lv' := [(5, .int z68), (0, .ref (mO ad)), (1, .int k), (2, .int z), (3, .int (mMany t)), (4, .int (mkNumB k))]) hx hb dX3_make_205 hl (k := 0) rfl (by rw [ez68]; rfl) (by decide) rfl (fun ls hl => ?_)
              refine lv_goto (tgt := 185) hx hb dX3_make_208 (by decide) ?_
              obtain rfl : z68 = nI (q + 1) := ez68.trans (nI_1 q)
              exact ih (q + 1) _ _ _ _ (by omega) (by subst hT; exact zbStep hmc (hc100 c9) (by omega)) hP hD hS (lv_sub hl [0, 1, 2, 3, 4, 5] rfl)
          exact LP35 64 0 _ _ _ _ (by omega) (zb0 _ _) hP hD hS (by first | exact lv_sub hl [0, 3, 4, 5, 2, 1] rfl | (rw [nI_0]; exact lv_sub hl [0, 3, 4, 5, 2, 1] rfl))
        · skip
          refine lv_aload_n hx hb dX3_make_44 rfl (lv_at hl 0 rfl) ?_
          refine va_get (D := D) (ci := 4) (v := .int (mSaves t)) (C := RX3) (T := TX3) (N := 19) hx hb hts iwX3 hown hK hP 0 rfl rfl 3 (by decide) (hts (.fieldLink RX3 80 "ObjectRowsModel" "saves" "I") (by decide +kernel)) (fun _ h9 => h9) rfl dX3_make_45 ?_
          refine lv_iconst (v := 3) hx hb dX3_make_48 (by decide) ?_
          refine lv_icmp_ne (tgt := 55) hx hb dX3_make_49 (by decide) (fun c69 => ?_) (fun c69 => ?_)
          · skip
            refine lv_iload_n hx hb dX3_make_55 rfl (lv_at hl 1 rfl) ?_
            refine lv_bipush (v := 11) hx hb dX3_make_56 (by decide) ?_
            refine lv_icmp_ne (tgt := 106) hx hb dX3_make_58 (by decide) (fun c70 => absurd c10 c70) (fun _ => ?_)
            refine lv_aload_n hx hb dX3_make_61 rfl (lv_at hl 0 rfl) ?_
            refine lv_dup hx hb dX3_make_62 rfl ?_
            refine va_get (D := D) (ci := 4) (v := .int (mSaves t)) (C := RX3) (T := TX3) (N := 19) hx hb hts iwX3 hown hK hP 0 rfl rfl 3 (by decide) (hts (.fieldLink RX3 80 "ObjectRowsModel" "saves" "I") (by decide +kernel)) (fun _ h9 => h9) rfl dX3_make_63 ?_
            refine lv_iconst (v := 1) hx hb dX3_make_66 (by decide) ?_
            refine lv_iadd hx hb dX3_make_67 ?_
            refine mFput3 (ad := ad) hx hb hts iwX3 hown hK hP hD hS (hts (.fieldLink RX3 80 "ObjectRowsModel" "saves" "I") (by decide +kernel)) dX3_make_68 (fun H locs hP hD hS => ?_)
            refine lv_aload_n hx hb dX3_make_71 rfl (lv_at hl 0 rfl) ?_
            refine va_get (D := D) (ci := 4) (v := .ref (mH ad 13)) (C := RX3) (T := TX3) (N := 19) hx hb hts iwX3 hown hK hP 0 rfl rfl 17 (by decide) (hts (.fieldLink RX3 59 "ObjectRowsModel" "saveObject" "[I") (by decide +kernel)) (fun _ h9 => h9) rfl dX3_make_72 ?_
            refine lv_aload_n hx hb dX3_make_75 rfl (lv_at hl 0 rfl) ?_
            refine va_get (D := D) (ci := 4) (v := .int (mSaves (mSetSaves (mSetThr t 0) ((mSaves t) + 1)))) (C := RX3) (T := TX3) (N := 19) hx hb hts iwX3 hown hK hP 0 rfl rfl 3 (by decide) (hts (.fieldLink RX3 80 "ObjectRowsModel" "saves" "I") (by decide +kernel)) (fun _ h9 => h9) rfl dX3_make_76 ?_
            refine lv_topi (fun y71 ey71 => ?_)
            obtain rfl : y71 = (mSaves t) + 1 := ey71.trans (flSaves_saves)
            refine lv_aload_n hx hb dX3_make_79 rfl (lv_at hl 0 rfl) ?_
            refine va_get (D := D) (ci := 4) (v := .int (mMany (mSetSaves (mSetThr t 0) ((mSaves t) + 1)))) (C := RX3) (T := TX3) (N := 19) hx hb hts iwX3 hown hK hP 0 rfl rfl 1 (by decide) (hts (.fieldLink RX3 7 "ObjectRowsModel" "many" "I") (by decide +kernel)) (fun _ h9 => h9) rfl dX3_make_80 ?_
            refine lv_topi (fun y72 ey72 => ?_)
            obtain rfl : y72 = mMany t := ey72.trans (flMany_saves.trans (flMany_thr))
            refine mAst13 (ad := ad) hx hb hK hP hD hS (hsv4 c9 c69) dX3_make_83 (fun H locs hP hD hS => ?_)
            refine lv_aload_n hx hb dX3_make_84 rfl (lv_at hl 0 rfl) ?_
            refine va_get (D := D) (ci := 4) (v := .ref (mH ad 14)) (C := RX3) (T := TX3) (N := 19) hx hb hts iwX3 hown hK hP 0 rfl rfl 18 (by decide) (hts (.fieldLink RX3 62 "ObjectRowsModel" "saveUsed" "[I") (by decide +kernel)) (fun _ h9 => h9) rfl dX3_make_85 ?_
            refine lv_aload_n hx hb dX3_make_88 rfl (lv_at hl 0 rfl) ?_
            refine va_get (D := D) (ci := 4) (v := .int (mSaves (mUp (mSetSaves (mSetThr t 0) ((mSaves t) + 1)) 13 ((mSaves t) + 1) (mMany t)))) (C := RX3) (T := TX3) (N := 19) hx hb hts iwX3 hown hK hP 0 rfl rfl 3 (by decide) (hts (.fieldLink RX3 80 "ObjectRowsModel" "saves" "I") (by decide +kernel)) (fun _ h9 => h9) rfl dX3_make_89 ?_
            refine lv_topi (fun y73 ey73 => ?_)
            obtain rfl : y73 = (mSaves t) + 1 := ey73.trans (flSaves_up.trans (flSaves_saves))
            refine lv_aload_n hx hb dX3_make_92 rfl (lv_at hl 0 rfl) ?_
            refine va_get (D := D) (ci := 4) (v := .int (mUsed (mUp (mSetSaves (mSetThr t 0) ((mSaves t) + 1)) 13 ((mSaves t) + 1) (mMany t)))) (C := RX3) (T := TX3) (N := 19) hx hb hts iwX3 hown hK hP 0 rfl rfl 2 (by decide) (hts (.fieldLink RX3 13 "ObjectRowsModel" "used" "I") (by decide +kernel)) (fun _ h9 => h9) rfl dX3_make_93 ?_
            refine lv_topi (fun y74 ey74 => ?_)
            obtain rfl : y74 = mUsed t := ey74.trans (flUsed_up.trans (flUsed_saves.trans (flUsed_thr)))
            refine mAst14 (ad := ad) hx hb hK hP hD hS (hsv4 c9 c69) dX3_make_96 (fun H locs hP hD hS => ?_)
            refine lv_aload_n hx hb dX3_make_97 rfl (lv_at hl 0 rfl) ?_
            refine lv_iconst (v := 0) hx hb dX3_make_98 (by decide) ?_
            refine lv_topi (fun y75 ey75 => ?_)
            obtain rfl : y75 = nI 0 := ey75.trans (nI_0.symm)
            refine lv_aload_n hx hb dX3_make_99 rfl (lv_at hl 0 rfl) ?_
            refine va_get (D := D) (ci := 4) (v := .int (mSaves (mUp (mUp (mSetSaves (mSetThr t 0) ((mSaves t) + 1)) 13 ((mSaves t) + 1) (mMany t)) 14 ((mSaves t) + 1) (mUsed t)))) (C := RX3) (T := TX3) (N := 19) hx hb hts iwX3 hown hK hP 0 rfl rfl 3 (by decide) (hts (.fieldLink RX3 80 "ObjectRowsModel" "saves" "I") (by decide +kernel)) (fun _ h9 => h9) rfl dX3_make_100 ?_
            refine lv_topi (fun y76 ey76 => ?_)
            obtain rfl : y76 = (mSaves t) + 1 := ey76.trans (flSaves_up.trans (flSaves_up.trans (flSaves_saves)))
            refine lv_topi (fun y77 ey77 => ?_)
            obtain rfl : y77 = nI (sv + 1) := ey77.trans (by rw [hsv]; exact nI_1 sv)
            refine wcV (As := [.int (nI 0), .int (nI (sv + 1))]) (rest := []) ⟨hx, hb, hml, hown, hts⟩ (c_X3_copy l D Y ad (mUp (mUp (mSetSaves (mSetThr t 0) ((mSaves t) + 1)) 13 ((mSaves t) + 1) (mMany t)) 14 ((mSaves t) + 1) (mUsed t)) 0 (sv + 1) H.size (by omega) (by have := hsv3 c69; omega) h5 h9) (cwV 2 hts gX3_make_X3_copy rfl rfl rfl hdX3_copy ⟨Nat.le_of_ble_eq_true rfl, Nat.le_of_ble_eq_true rfl⟩) hP hD hK hS hA 0 4 rfl rfl rfl hl.1 rfl (Nat.le_of_ble_eq_true rfl) dX3_make_103 ⟨by dsimp only; omega, by dsimp only; omega⟩ (frSelf hD hS hA) (fun u78 H locs hu78 hP hD hS => ?_)
            subst hu78
            have hP : va_P D vwCl (mW Y ad (fCopy (mUp (mUp (mSetSaves (mSetThr t 0) ((mSaves t) + 1)) 13 ((mSaves t) + 1) (mMany t)) 14 ((mSaves t) + 1) (mUsed t)) 0 (sv + 1))) H := hP
            have hD : va_D A (mW Y ad (fCopy (mUp (mUp (mSetSaves (mSetThr t 0) ((mSaves t) + 1)) 13 ((mSaves t) + 1) (mMany t)) 14 ((mSaves t) + 1) (mUsed t)) 0 (sv + 1))) := hD
            refine lv_aload_n hx hb dX3_make_106 rfl (lv_at hl 0 rfl) ?_
            refine va_get (D := D) (ci := 4) (v := .int (mMany (fCopy (mUp (mUp (mSetSaves (mSetThr t 0) ((mSaves t) + 1)) 13 ((mSaves t) + 1) (mMany t)) 14 ((mSaves t) + 1) (mUsed t)) 0 (sv + 1)))) (C := RX3) (T := TX3) (N := 19) hx hb hts iwX3 hown hK hP 0 rfl rfl 1 (by decide) (hts (.fieldLink RX3 7 "ObjectRowsModel" "many" "I") (by decide +kernel)) (fun _ h9 => h9) rfl dX3_make_107 ?_
            refine lv_topi (fun y79 ey79 => ?_)
            obtain rfl : y79 = mMany t := ey79.trans (flMany_copy.trans (flMany_up.trans (flMany_up.trans (flMany_saves.trans (flMany_thr)))))
            refine lv_istore_n (lv' := [(3, .int (mMany t)), (0, .ref (mO ad)), (1, .int k), (2, .int z)]) hx hb dX3_make_110 rfl hl (by decide) rfl (fun ls hl => ?_)
            refine lv_aload_n hx hb dX3_make_111 rfl (lv_at hl 1 rfl) ?_
            refine lv_iload_n hx hb dX3_make_112 rfl (lv_at hl 0 rfl) ?_
            refine lv_iload_n hx hb dX3_make_113 rfl (lv_at hl 2 rfl) ?_
            refine wcV (As := [.int (mMany t), .int k]) (rest := []) ⟨hx, hb, hml, hown, hts⟩ (c_X3_blank l D Y ad (fCopy (mUp (mUp (mSetSaves (mSetThr t 0) ((mSaves t) + 1)) 13 ((mSaves t) + 1) (mMany t)) 14 ((mSaves t) + 1) (mUsed t)) 0 (sv + 1)) H.size (mMany t) k (hm c9)) (cwV 2 hts gX3_make_X3_blank rfl rfl rfl hdX3_blank ⟨Nat.le_of_ble_eq_true rfl, Nat.le_of_ble_eq_true rfl⟩) hP hD hK hS hA 0 4 rfl rfl rfl hl.1 rfl (Nat.le_of_ble_eq_true rfl) dX3_make_114 ⟨by dsimp only; omega, by dsimp only; omega⟩ (frSelf hD hS hA) (fun u80 H locs hu80 hP hD hS => ?_)
            subst hu80
            have hP : va_P D vwCl (mW Y ad (fBlank (fCopy (mUp (mUp (mSetSaves (mSetThr t 0) ((mSaves t) + 1)) 13 ((mSaves t) + 1) (mMany t)) 14 ((mSaves t) + 1) (mUsed t)) 0 (sv + 1)) (mMany t) k (fBlankV k))) H := hP
            have hD : va_D A (mW Y ad (fBlank (fCopy (mUp (mUp (mSetSaves (mSetThr t 0) ((mSaves t) + 1)) 13 ((mSaves t) + 1) (mMany t)) 14 ((mSaves t) + 1) (mUsed t)) 0 (sv + 1)) (mMany t) k (fBlankV k))) := hD
            suffices J81 : W p l e ({ frames := 2, cells := 0, slots := 0, locals := 44 }) s m ([.ref (mO ad), .int k, .int z] : List Value).toArray below meth c H locs (0) (0) (MQ below (va_Qi (fun (ans : Int32) (u : MS) => ans = (fMake t k z c0 sv).1 ∧ u = (fMake t k z c0 sv).2) (wrB D A (fun u : MS => mW Y ad u)) A) ([.ref (mO ad), .int k, .int z] : List Value).toArray s (0) (0) A) (F0 m 143 ls [.int (mkNumB k)]) by
              refine lv_iload_n hx hb dX3_make_117 rfl (lv_at hl 2 rfl) ?_
              refine lv_iconst (v := 1) hx hb dX3_make_118 (by decide) ?_
              refine lv_iconst (v := 3) hx hb dX3_make_119 (by decide) ?_
              refine scI (As := [.int k, .int 1, .int 3]) (rest := []) ⟨hx, hb, hml, hown, hts⟩ (c_X3_within l k 1 3) (va_cwS 3 hts gX3_make_X3_within rfl rfl rfl hdX3_within ⟨Nat.le_of_ble_eq_true rfl, Nat.le_of_ble_eq_true rfl⟩) rfl hl.1 rfl (Nat.le_of_ble_eq_true rfl) dX3_make_120 ⟨(Nat.zero_le _), (Nat.zero_le _)⟩ (fun r82 hr82 => ?_)
              replace hr82 : r82 = bI (qWithin k 1 3) := hr82
              cases b83 : qWithin k 1 3
              · replace hr82 : r82 = 0 := by rw [hr82, b83]; rfl
                subst hr82
                refine lv_if_ne (tgt := 138) hx hb dX3_make_123 (by decide) (fun c84 => absurd (by decide) c84) (fun _ => ?_)
                refine lv_iload_n hx hb dX3_make_126 rfl (lv_at hl 2 rfl) ?_
                refine lv_bipush (v := 9) hx hb dX3_make_127 (by decide) ?_
                refine lv_icmp_eq (tgt := 138) hx hb dX3_make_129 (by decide) (fun c85 => ?_) (fun c85 => ?_)
                · skip
                  refine lv_iconst (v := 1) hx hb dX3_make_138 (by decide) ?_
                  refine lv_goto (tgt := 143) hx hb dX3_make_139 (by decide) ?_
                  have e86 : mkNumB k = 1 := by first | (simp only [mkNumB, b83, c85, decide_true, decide_false, Bool.not_true, Bool.not_false, Bool.and_true, Bool.true_and, Bool.and_false, Bool.false_and, Bool.or_true, Bool.true_or, Bool.or_false, Bool.false_or, Bool.and_self, Bool.or_self, if_true, if_false, ite_true, ite_false, Bool.false_eq_true, reduceIte, not_true_eq_false, not_false_eq_true, and_true, true_and, and_false, false_and, or_true, true_or, or_false, false_or, and_self, or_self, eq_self, decide_eq_true_eq, Bool.true_eq_false, reduceCtorEq, ne_eq]; done) | (simp [mkNumB, b83, c85]; done) | (simp only [mkNumB, b83, eq_true c85, decide_true, decide_false, Bool.not_true, Bool.not_false, Bool.and_true, Bool.true_and, Bool.and_false, Bool.false_and, Bool.or_true, Bool.true_or, Bool.or_false, Bool.false_or, Bool.and_self, Bool.or_self, if_true, if_false, ite_true, ite_false, Bool.false_eq_true, reduceIte, not_true_eq_false, not_false_eq_true, and_true, true_and, and_false, false_and, or_true, true_or, or_false, false_or, and_self, or_self, eq_self, decide_eq_true_eq, Bool.true_eq_false, reduceCtorEq, ne_eq]; done) | (simp [mkNumB, b83, eq_true c85]; done)
                  rw [e86] at J81
                  exact J81
                · skip
                  refine lv_iload_n hx hb dX3_make_132 rfl (lv_at hl 2 rfl) ?_
                  refine lv_bipush (v := 10) hx hb dX3_make_133 (by decide) ?_
                  refine lv_icmp_ne (tgt := 142) hx hb dX3_make_135 (by decide) (fun c87 => ?_) (fun c87 => ?_)
                  · skip
                    refine lv_iconst (v := 0) hx hb dX3_make_142 (by decide) ?_
                    have e88 : mkNumB k = 0 := by first | (simp only [mkNumB, b83, c85, c87, decide_true, decide_false, Bool.not_true, Bool.not_false, Bool.and_true, Bool.true_and, Bool.and_false, Bool.false_and, Bool.or_true, Bool.true_or, Bool.or_false, Bool.false_or, Bool.and_self, Bool.or_self, if_true, if_false, ite_true, ite_false, Bool.false_eq_true, reduceIte, not_true_eq_false, not_false_eq_true, and_true, true_and, and_false, false_and, or_true, true_or, or_false, false_or, and_self, or_self, eq_self, decide_eq_true_eq, Bool.true_eq_false, reduceCtorEq, ne_eq]; done) | (simp [mkNumB, b83, c85, c87]; done)
                    rw [e88] at J81
                    exact J81
                  · skip
                    refine lv_iconst (v := 1) hx hb dX3_make_138 (by decide) ?_
                    refine lv_goto (tgt := 143) hx hb dX3_make_139 (by decide) ?_
                    have e89 : mkNumB k = 1 := by first | (simp only [mkNumB, b83, c85, c87, decide_true, decide_false, Bool.not_true, Bool.not_false, Bool.and_true, Bool.true_and, Bool.and_false, Bool.false_and, Bool.or_true, Bool.true_or, Bool.or_false, Bool.false_or, Bool.and_self, Bool.or_self, if_true, if_false, ite_true, ite_false, Bool.false_eq_true, reduceIte, not_true_eq_false, not_false_eq_true, and_true, true_and, and_false, false_and, or_true, true_or, or_false, false_or, and_self, or_self, eq_self, decide_eq_true_eq, Bool.true_eq_false, reduceCtorEq, ne_eq]; done) | (simp [mkNumB, b83, c85, c87]; done) | (simp only [mkNumB, b83, c85, eq_true c87, decide_true, decide_false, Bool.not_true, Bool.not_false, Bool.and_true, Bool.true_and, Bool.and_false, Bool.false_and, Bool.or_true, Bool.true_or, Bool.or_false, Bool.false_or, Bool.and_self, Bool.or_self, if_true, if_false, ite_true, ite_false, Bool.false_eq_true, reduceIte, not_true_eq_false, not_false_eq_true, and_true, true_and, and_false, false_and, or_true, true_or, or_false, false_or, and_self, or_self, eq_self, decide_eq_true_eq, Bool.true_eq_false, reduceCtorEq, ne_eq]; done) | (simp [mkNumB, b83, c85, eq_true c87]; done)
                    rw [e89] at J81
                    exact J81
              · replace hr82 : r82 = 1 := by rw [hr82, b83]; rfl
                subst hr82
                refine lv_if_ne (tgt := 138) hx hb dX3_make_123 (by decide) (fun _ => ?_) (fun c90 => absurd c90 (by decide))
                refine lv_iconst (v := 1) hx hb dX3_make_138 (by decide) ?_
                refine lv_goto (tgt := 143) hx hb dX3_make_139 (by decide) ?_
                have e91 : mkNumB k = 1 := by first | (simp only [mkNumB, b83, decide_true, decide_false, Bool.not_true, Bool.not_false, Bool.and_true, Bool.true_and, Bool.and_false, Bool.false_and, Bool.or_true, Bool.true_or, Bool.or_false, Bool.false_or, Bool.and_self, Bool.or_self, if_true, if_false, ite_true, ite_false, Bool.false_eq_true, reduceIte, not_true_eq_false, not_false_eq_true, and_true, true_and, and_false, false_and, or_true, true_or, or_false, false_or, and_self, or_self, eq_self, decide_eq_true_eq, Bool.true_eq_false, reduceCtorEq, ne_eq]; done) | (simp [mkNumB, b83]; done)
                rw [e91] at J81
                exact J81
            refine lv_istore (lv' := [(4, .int (mkNumB k)), (3, .int (mMany t)), (0, .ref (mO ad)), (1, .int k), (2, .int z)]) hx hb dX3_make_143 hl (by decide) rfl (fun ls hl => ?_)
            refine lv_aload_n hx hb dX3_make_145 rfl (lv_at hl 2 rfl) ?_
            refine va_get (D := D) (ci := 4) (v := .ref (mH ad 1)) (C := RX3) (T := TX3) (N := 19) hx hb hts iwX3 hown hK hP 0 rfl rfl 5 (by decide) (hts (.fieldLink RX3 20 "ObjectRowsModel" "numbers" "[I") (by decide +kernel)) (fun _ h9 => h9) rfl dX3_make_146 ?_
            refine lv_iload_n hx hb dX3_make_149 rfl (lv_at hl 1 rfl) ?_
            suffices J92 : W p l e ({ frames := 2, cells := 0, slots := 0, locals := 44 }) s m ([.ref (mO ad), .int k, .int z] : List Value).toArray below meth c H locs (0) (0) (MQ below (va_Qi (fun (ans : Int32) (u : MS) => ans = (fMake t k z c0 sv).1 ∧ u = (fMake t k z c0 sv).2) (wrB D A (fun u : MS => mW Y ad u)) A) ([.ref (mO ad), .int k, .int z] : List Value).toArray s (0) (0) A) (F0 m 160 ls [.int (mkNum k z (mMany t)), .int (mMany t), .ref (mH ad 1)]) by
              refine lv_iload hx hb dX3_make_150 (lv_at hl 0 rfl) ?_
              refine lv_if_eq (tgt := 159) hx hb dX3_make_152 (by decide) (fun c93 => ?_) (fun c93 => ?_)
              · skip
                refine lv_iload_n hx hb dX3_make_159 rfl (lv_at hl 1 rfl) ?_
                have e94 : mkNum k z (mMany t) = mMany t := by first | (simp only [mkNum, c93, decide_true, decide_false, Bool.not_true, Bool.not_false, Bool.and_true, Bool.true_and, Bool.and_false, Bool.false_and, Bool.or_true, Bool.true_or, Bool.or_false, Bool.false_or, Bool.and_self, Bool.or_self, if_true, if_false, ite_true, ite_false, Bool.false_eq_true, reduceIte, not_true_eq_false, not_false_eq_true, and_true, true_and, and_false, false_and, or_true, true_or, or_false, false_or, and_self, or_self, eq_self, decide_eq_true_eq, Bool.true_eq_false, reduceCtorEq, ne_eq]; done) | (simp [mkNum, c93]; done) | (simp only [mkNum, eq_true c93, decide_true, decide_false, Bool.not_true, Bool.not_false, Bool.and_true, Bool.true_and, Bool.and_false, Bool.false_and, Bool.or_true, Bool.true_or, Bool.or_false, Bool.false_or, Bool.and_self, Bool.or_self, if_true, if_false, ite_true, ite_false, Bool.false_eq_true, reduceIte, not_true_eq_false, not_false_eq_true, and_true, true_and, and_false, false_and, or_true, true_or, or_false, false_or, and_self, or_self, eq_self, decide_eq_true_eq, Bool.true_eq_false, reduceCtorEq, ne_eq]; done) | (simp [mkNum, eq_true c93]; done)
                rw [e94] at J92
                exact J92
              · skip
                refine lv_iload_n hx hb dX3_make_155 rfl (lv_at hl 4 rfl) ?_
                refine lv_goto (tgt := 160) hx hb dX3_make_156 (by decide) ?_
                have e95 : mkNum k z (mMany t) = z := by first | (simp only [mkNum, c93, decide_true, decide_false, Bool.not_true, Bool.not_false, Bool.and_true, Bool.true_and, Bool.and_false, Bool.false_and, Bool.or_true, Bool.true_or, Bool.or_false, Bool.false_or, Bool.and_self, Bool.or_self, if_true, if_false, ite_true, ite_false, Bool.false_eq_true, reduceIte, not_true_eq_false, not_false_eq_true, and_true, true_and, and_false, false_and, or_true, true_or, or_false, false_or, and_self, or_self, eq_self, decide_eq_true_eq, Bool.true_eq_false, reduceCtorEq, ne_eq]; done) | (simp [mkNum, c93]; done)
                rw [e95] at J92
                exact J92
            refine mAst1 (ad := ad) hx hb hK hP hD hS (hm c9) dX3_make_160 (fun H locs hP hD hS => ?_)
            refine lv_aload_n hx hb dX3_make_161 rfl (lv_at hl 2 rfl) ?_
            refine va_get (D := D) (ci := 4) (v := .ref (mH ad 3)) (C := RX3) (T := TX3) (N := 19) hx hb hts iwX3 hown hK hP 0 rfl rfl 7 (by decide) (hts (.fieldLink RX3 26 "ObjectRowsModel" "lengths" "[I") (by decide +kernel)) (fun _ h9 => h9) rfl dX3_make_162 ?_
            refine lv_iload_n hx hb dX3_make_165 rfl (lv_at hl 1 rfl) ?_
            suffices J96 : W p l e ({ frames := 2, cells := 0, slots := 0, locals := 44 }) s m ([.ref (mO ad), .int k, .int z] : List Value).toArray below meth c H locs (0) (0) (MQ below (va_Qi (fun (ans : Int32) (u : MS) => ans = (fMake t k z c0 sv).1 ∧ u = (fMake t k z c0 sv).2) (wrB D A (fun u : MS => mW Y ad u)) A) ([.ref (mO ad), .int k, .int z] : List Value).toArray s (0) (0) A) (F0 m 181 ls [.int (mkLen k z), .int (mMany t), .ref (mH ad 3)]) by
              refine lv_iload_n hx hb dX3_make_166 rfl (lv_at hl 3 rfl) ?_
              refine lv_iconst (v := 4) hx hb dX3_make_167 (by decide) ?_
              refine lv_bipush (v := 6) hx hb dX3_make_168 (by decide) ?_
              refine scI (As := [.int k, .int 4, .int 6]) (rest := [.int (mMany t), .ref (mH ad 3)]) ⟨hx, hb, hml, hown, hts⟩ (c_X3_within l k 4 6) (va_cwS 3 hts gX3_make_X3_within rfl rfl rfl hdX3_within ⟨Nat.le_of_ble_eq_true rfl, Nat.le_of_ble_eq_true rfl⟩) rfl hl.1 rfl (Nat.le_of_ble_eq_true rfl) dX3_make_170 ⟨(Nat.zero_le _), (Nat.zero_le _)⟩ (fun r97 hr97 => ?_)
              replace hr97 : r97 = bI (qWithin k 4 6) := hr97
              cases b98 : qWithin k 4 6
              · replace hr97 : r97 = 0 := by rw [hr97, b98]; rfl
                subst hr97
                refine lv_if_eq (tgt := 180) hx hb dX3_make_173 (by decide) (fun _ => ?_) (fun c99 => absurd (by decide) c99)
                refine lv_iconst (v := 0) hx hb dX3_make_180 (by decide) ?_
                have e100 : mkLen k z = 0 := by first | (simp only [mkLen, b98, decide_true, decide_false, Bool.not_true, Bool.not_false, Bool.and_true, Bool.true_and, Bool.and_false, Bool.false_and, Bool.or_true, Bool.true_or, Bool.or_false, Bool.false_or, Bool.and_self, Bool.or_self, if_true, if_false, ite_true, ite_false, Bool.false_eq_true, reduceIte, not_true_eq_false, not_false_eq_true, and_true, true_and, and_false, false_and, or_true, true_or, or_false, false_or, and_self, or_self, eq_self, decide_eq_true_eq, Bool.true_eq_false, reduceCtorEq, ne_eq]; done) | (simp [mkLen, b98]; done)
                rw [e100] at J96
                exact J96
              · replace hr97 : r97 = 1 := by rw [hr97, b98]; rfl
                subst hr97
                refine lv_if_eq (tgt := 180) hx hb dX3_make_173 (by decide) (fun c101 => absurd c101 (by decide)) (fun _ => ?_)
                refine lv_iload_n hx hb dX3_make_176 rfl (lv_at hl 4 rfl) ?_
                refine lv_goto (tgt := 181) hx hb dX3_make_177 (by decide) ?_
                have e102 : mkLen k z = z := by first | (simp only [mkLen, b98, decide_true, decide_false, Bool.not_true, Bool.not_false, Bool.and_true, Bool.true_and, Bool.and_false, Bool.false_and, Bool.or_true, Bool.true_or, Bool.or_false, Bool.false_or, Bool.and_self, Bool.or_self, if_true, if_false, ite_true, ite_false, Bool.false_eq_true, reduceIte, not_true_eq_false, not_false_eq_true, and_true, true_and, and_false, false_and, or_true, true_or, or_false, false_or, and_self, or_self, eq_self, decide_eq_true_eq, Bool.true_eq_false, reduceCtorEq, ne_eq]; done) | (simp [mkLen, b98]; done)
                rw [e102] at J96
                exact J96
            refine mAst3 (ad := ad) hx hb hK hP hD hS (hm c9) dX3_make_181 (fun H locs hP hD hS => ?_)
            refine lv_iconst (v := 0) hx hb dX3_make_182 (by decide) ?_
            refine lv_istore (lv' := [(5, .int 0), (4, .int (mkNumB k)), (3, .int (mMany t)), (0, .ref (mO ad)), (1, .int k), (2, .int z)]) hx hb dX3_make_183 hl (by decide) rfl (fun ls hl => ?_)
            have LP103 : ∀ (n q : Nat) (T : MS) (H : Heap) (locs : List Loc) (ls : Array Slot), q + n = 64 → T = zbS (mUp (mUp (fBlank (fCopy (mUp (mUp (mSetSaves (mSetThr t 0) ((mSaves t) + 1)) 13 ((mSaves t) + 1) (mMany t)) 14 ((mSaves t) + 1) (mUsed t)) 0 (sv + 1)) (mMany t) k (fBlankV k)) 1 (mMany t) (mkNum k z (mMany t))) 3 (mMany t) (mkLen k z)) c0 q → va_P D vwCl (mW Y ad T) H → va_D A (mW Y ad T) → va_S A s.heap H locs → lv_has ls 6 [(5, .int (nI q)), (0, .ref (mO ad)), (1, .int k), (2, .int z), (3, .int (mMany t)), (4, .int (mkNumB k))] → W p l e ({ frames := 2, cells := 0, slots := 0, locals := 44 }) s m ([.ref (mO ad), .int k, .int z] : List Value).toArray below meth c H locs (0) (0) (MQ below (va_Qi (fun (ans : Int32) (u : MS) => ans = (fMake t k z c0 sv).1 ∧ u = (fMake t k z c0 sv).2) (wrB D A (fun u : MS => mW Y ad u)) A) ([.ref (mO ad), .int k, .int z] : List Value).toArray s (0) (0) A) (F0 m 185 ls []) := by
              intro n
              induction n with
              | zero =>
                intro q T H locs ls hz hT hP hD hS hl
                obtain rfl : q = 64 := by omega
                subst hT
                have c104 : (64 : Int32) ≤ nI 64 := by decide
                refine lv_iload hx hb dX3_make_185 (lv_at hl 0 rfl) ?_
                refine lv_bipush (v := 64) hx hb dX3_make_187 (by decide) ?_
                refine lv_icmp_ge (tgt := 211) hx hb dX3_make_189 (by decide) (fun _ => ?_) (fun c105 => absurd c104 c105)
                refine lv_iconst (v := 0) hx hb dX3_make_211 (by decide) ?_
                refine lv_istore (lv' := [(5, .int 0), (0, .ref (mO ad)), (1, .int k), (2, .int z), (3, .int (mMany t)), (4, .int (mkNumB k))]) hx hb dX3_make_212 hl (by decide) rfl (fun ls hl => ?_)
                have LP106 : ∀ (n q : Nat) (T : MS) (H : Heap) (locs : List Loc) (ls : Array Slot), q + n = 32 → T = elS k z (mMany t) (zbS (mUp (mUp (fBlank (fCopy (mUp (mUp (mSetSaves (mSetThr t 0) ((mSaves t) + 1)) 13 ((mSaves t) + 1) (mMany t)) 14 ((mSaves t) + 1) (mUsed t)) 0 (sv + 1)) (mMany t) k (fBlankV k)) 1 (mMany t) (mkNum k z (mMany t))) 3 (mMany t) (mkLen k z)) c0 64) c0 q → va_P D vwCl (mW Y ad T) H → va_D A (mW Y ad T) → va_S A s.heap H locs → lv_has ls 6 [(5, .int (nI q)), (0, .ref (mO ad)), (1, .int k), (2, .int z), (3, .int (mMany t)), (4, .int (mkNumB k))] → W p l e ({ frames := 2, cells := 0, slots := 0, locals := 44 }) s m ([.ref (mO ad), .int k, .int z] : List Value).toArray below meth c H locs (0) (0) (MQ below (va_Qi (fun (ans : Int32) (u : MS) => ans = (fMake t k z c0 sv).1 ∧ u = (fMake t k z c0 sv).2) (wrB D A (fun u : MS => mW Y ad u)) A) ([.ref (mO ad), .int k, .int z] : List Value).toArray s (0) (0) A) (F0 m 214 ls []) := by
                  intro n
                  induction n with
                  | zero =>
                    intro q T H locs ls hz hT hP hD hS hl
                    obtain rfl : q = 32 := by omega
                    subst hT
                    have c107 : (32 : Int32) ≤ nI 32 := by decide
                    refine lv_iload hx hb dX3_make_214 (lv_at hl 0 rfl) ?_
                    refine lv_bipush (v := 32) hx hb dX3_make_216 (by decide) ?_
                    refine lv_icmp_ge (tgt := 261) hx hb dX3_make_218 (by decide) (fun _ => ?_) (fun c108 => absurd c107 c108)
                    refine lv_aload_n hx hb dX3_make_261 rfl (lv_at hl 1 rfl) ?_
                    refine va_get (D := D) (ci := 4) (v := .ref (mH ad 8)) (C := RX3) (T := TX3) (N := 19) hx hb hts iwX3 hown hK hP 0 rfl rfl 12 (by decide) (hts (.fieldLink RX3 43 "ObjectRowsModel" "capacities" "[I") (by decide +kernel)) (fun _ h9 => h9) rfl dX3_make_262 ?_
                    refine lv_iload_n hx hb dX3_make_265 rfl (lv_at hl 4 rfl) ?_
                    suffices J109 : W p l e ({ frames := 2, cells := 0, slots := 0, locals := 44 }) s m ([.ref (mO ad), .int k, .int z] : List Value).toArray below meth c H locs (0) (0) (MQ below (va_Qi (fun (ans : Int32) (u : MS) => ans = (fMake t k z c0 sv).1 ∧ u = (fMake t k z c0 sv).2) (wrB D A (fun u : MS => mW Y ad u)) A) ([.ref (mO ad), .int k, .int z] : List Value).toArray s (0) (0) A) (F0 m 277 ls [.int (mkCap k z), .int (mMany t), .ref (mH ad 8)]) by
                      refine lv_iload_n hx hb dX3_make_266 rfl (lv_at hl 2 rfl) ?_
                      refine lv_bipush (v := 7) hx hb dX3_make_267 (by decide) ?_
                      refine lv_icmp_ne (tgt := 276) hx hb dX3_make_269 (by decide) (fun c110 => ?_) (fun c110 => ?_)
                      · skip
                        refine lv_iconst (v := 0) hx hb dX3_make_276 (by decide) ?_
                        have e111 : mkCap k z = 0 := by first | (simp only [mkCap, c110, decide_true, decide_false, Bool.not_true, Bool.not_false, Bool.and_true, Bool.true_and, Bool.and_false, Bool.false_and, Bool.or_true, Bool.true_or, Bool.or_false, Bool.false_or, Bool.and_self, Bool.or_self, if_true, if_false, ite_true, ite_false, Bool.false_eq_true, reduceIte, not_true_eq_false, not_false_eq_true, and_true, true_and, and_false, false_and, or_true, true_or, or_false, false_or, and_self, or_self, eq_self, decide_eq_true_eq, Bool.true_eq_false, reduceCtorEq, ne_eq]; done) | (simp [mkCap, c110]; done)
                        rw [e111] at J109
                        exact J109
                      · skip
                        refine lv_iload_n hx hb dX3_make_272 rfl (lv_at hl 3 rfl) ?_
                        refine lv_goto (tgt := 277) hx hb dX3_make_273 (by decide) ?_
                        have e112 : mkCap k z = z := by first | (simp only [mkCap, c110, decide_true, decide_false, Bool.not_true, Bool.not_false, Bool.and_true, Bool.true_and, Bool.and_false, Bool.false_and, Bool.or_true, Bool.true_or, Bool.or_false, Bool.false_or, Bool.and_self, Bool.or_self, if_true, if_false, ite_true, ite_false, Bool.false_eq_true, reduceIte, not_true_eq_false, not_false_eq_true, and_true, true_and, and_false, false_and, or_true, true_or, or_false, false_or, and_self, or_self, eq_self, decide_eq_true_eq, Bool.true_eq_false, reduceCtorEq, ne_eq]; done) | (simp [mkCap, c110]; done) | (simp only [mkCap, eq_true c110, decide_true, decide_false, Bool.not_true, Bool.not_false, Bool.and_true, Bool.true_and, Bool.and_false, Bool.false_and, Bool.or_true, Bool.true_or, Bool.or_false, Bool.false_or, Bool.and_self, Bool.or_self, if_true, if_false, ite_true, ite_false, Bool.false_eq_true, reduceIte, not_true_eq_false, not_false_eq_true, and_true, true_and, and_false, false_and, or_true, true_or, or_false, false_or, and_self, or_self, eq_self, decide_eq_true_eq, Bool.true_eq_false, reduceCtorEq, ne_eq]; done) | (simp [mkCap, eq_true c110]; done)
                        rw [e112] at J109
                        exact J109
                    refine mAst8 (ad := ad) hx hb hK hP hD hS (in400 (hm c9)) dX3_make_277 (fun H locs hP hD hS => ?_)
                    refine lv_aload_n hx hb dX3_make_278 rfl (lv_at hl 1 rfl) ?_
                    refine va_get (D := D) (ci := 4) (v := .ref (mH ad 9)) (C := RX3) (T := TX3) (N := 19) hx hb hts iwX3 hown hK hP 0 rfl rfl 13 (by decide) (hts (.fieldLink RX3 46 "ObjectRowsModel" "grows" "[Z") (by decide +kernel)) (fun _ h9 => h9) rfl dX3_make_279 ?_
                    refine lv_iload_n hx hb dX3_make_282 rfl (lv_at hl 4 rfl) ?_
                    refine lv_iconst (v := 0) hx hb dX3_make_283 (by decide) ?_
                    refine mAst9 (ad := ad) hx hb hK hP hD hS (in400 (hm c9)) dX3_make_284 (fun H locs hP hD hS => ?_)
                    refine lv_aload_n hx hb dX3_make_285 rfl (lv_at hl 1 rfl) ?_
                    refine va_get (D := D) (ci := 4) (v := .ref (mH ad 10)) (C := RX3) (T := TX3) (N := 19) hx hb hts iwX3 hown hK hP 0 rfl rfl 14 (by decide) (hts (.fieldLink RX3 49 "ObjectRowsModel" "entries" "[I") (by decide +kernel)) (fun _ h9 => h9) rfl dX3_make_286 ?_
                    refine lv_iload_n hx hb dX3_make_289 rfl (lv_at hl 4 rfl) ?_
                    refine lv_iconst (v := 0) hx hb dX3_make_290 (by decide) ?_
                    refine mAst10 (ad := ad) hx hb hK hP hD hS (in400 (hm c9)) dX3_make_291 (fun H locs hP hD hS => ?_)
                    refine lv_aload_n hx hb dX3_make_292 rfl (lv_at hl 1 rfl) ?_
                    refine lv_dup hx hb dX3_make_293 rfl ?_
                    refine va_get (D := D) (ci := 4) (v := .int (mUsed (mUp (mUp (mUp (elS k z (mMany t) (zbS (mUp (mUp (fBlank (fCopy (mUp (mUp (mSetSaves (mSetThr t 0) ((mSaves t) + 1)) 13 ((mSaves t) + 1) (mMany t)) 14 ((mSaves t) + 1) (mUsed t)) 0 (sv + 1)) (mMany t) k (fBlankV k)) 1 (mMany t) (mkNum k z (mMany t))) 3 (mMany t) (mkLen k z)) c0 64) c0 32) 8 (mMany t) (mkCap k z)) 9 (mMany t) (vp_nar .boolean 0)) 10 (mMany t) 0))) (C := RX3) (T := TX3) (N := 19) hx hb hts iwX3 hown hK hP 0 rfl rfl 2 (by decide) (hts (.fieldLink RX3 13 "ObjectRowsModel" "used" "I") (by decide +kernel)) (fun _ h9 => h9) rfl dX3_make_294 ?_
                    refine lv_topi (fun y113 ey113 => ?_)
                    obtain rfl : y113 = mUsed t := ey113.trans (flUsed_up.trans (flUsed_up.trans (flUsed_up.trans (flUsed_el.trans (flUsed_zb.trans (flUsed_up.trans (flUsed_up.trans (flUsed_blank.trans (flUsed_copy.trans (flUsed_up.trans (flUsed_up.trans (flUsed_saves.trans (flUsed_thr)))))))))))))
                    refine lv_bipush (v := 8) hx hb dX3_make_297 (by decide) ?_
                    suffices J114 : W p l e ({ frames := 2, cells := 0, slots := 0, locals := 44 }) s m ([.ref (mO ad), .int k, .int z] : List Value).toArray below meth c H locs (0) (0) (MQ below (va_Qi (fun (ans : Int32) (u : MS) => ans = (fMake t k z c0 sv).1 ∧ u = (fMake t k z c0 sv).2) (wrB D A (fun u : MS => mW Y ad u)) A) ([.ref (mO ad), .int k, .int z] : List Value).toArray s (0) (0) A) (F0 m 346 ls [.int (mkCost k z), .int 8, .int (mUsed t), .ref (mO ad)]) by
                      refine lv_iload_n hx hb dX3_make_299 rfl (lv_at hl 2 rfl) ?_
                      refine lv_iconst (v := 4) hx hb dX3_make_300 (by decide) ?_
                      refine lv_icmp_ne (tgt := 308) hx hb dX3_make_301 (by decide) (fun c115 => ?_) (fun c115 => ?_)
                      · skip
                        refine lv_iload_n hx hb dX3_make_308 rfl (lv_at hl 2 rfl) ?_
                        refine lv_iconst (v := 5) hx hb dX3_make_309 (by decide) ?_
                        refine lv_icmp_ne (tgt := 320) hx hb dX3_make_310 (by decide) (fun c116 => ?_) (fun c116 => ?_)
                        · skip
                          refine lv_iload_n hx hb dX3_make_320 rfl (lv_at hl 2 rfl) ?_
                          refine lv_bipush (v := 6) hx hb dX3_make_321 (by decide) ?_
                          refine lv_icmp_ne (tgt := 332) hx hb dX3_make_323 (by decide) (fun c117 => ?_) (fun c117 => ?_)
                          · skip
                            refine lv_iload_n hx hb dX3_make_332 rfl (lv_at hl 2 rfl) ?_
                            refine lv_bipush (v := 7) hx hb dX3_make_333 (by decide) ?_
                            refine lv_icmp_ne (tgt := 345) hx hb dX3_make_335 (by decide) (fun c118 => ?_) (fun c118 => ?_)
                            · skip
                              refine lv_iconst (v := 0) hx hb dX3_make_345 (by decide) ?_
                              have e119 : mkCost k z = 0 := by first | (simp only [mkCost, c115, c116, c117, c118, decide_true, decide_false, Bool.not_true, Bool.not_false, Bool.and_true, Bool.true_and, Bool.and_false, Bool.false_and, Bool.or_true, Bool.true_or, Bool.or_false, Bool.false_or, Bool.and_self, Bool.or_self, if_true, if_false, ite_true, ite_false, Bool.false_eq_true, reduceIte, not_true_eq_false, not_false_eq_true, and_true, true_and, and_false, false_and, or_true, true_or, or_false, false_or, and_self, or_self, eq_self, decide_eq_true_eq, Bool.true_eq_false, reduceCtorEq, ne_eq]; done) | (simp [mkCost, c115, c116, c117, c118]; done)
                              rw [e119] at J114
                              exact J114
                            · skip
                              refine lv_bipush (v := 16) hx hb dX3_make_338 (by decide) ?_
                              refine lv_iload_n hx hb dX3_make_340 rfl (lv_at hl 3 rfl) ?_
                              refine lv_imul hx hb dX3_make_341 ?_
                              refine lv_goto (tgt := 346) hx hb dX3_make_342 (by decide) ?_
                              have e120 : mkCost k z = 16 * z := by first | (simp only [mkCost, c115, c116, c117, c118, decide_true, decide_false, Bool.not_true, Bool.not_false, Bool.and_true, Bool.true_and, Bool.and_false, Bool.false_and, Bool.or_true, Bool.true_or, Bool.or_false, Bool.false_or, Bool.and_self, Bool.or_self, if_true, if_false, ite_true, ite_false, Bool.false_eq_true, reduceIte, not_true_eq_false, not_false_eq_true, and_true, true_and, and_false, false_and, or_true, true_or, or_false, false_or, and_self, or_self, eq_self, decide_eq_true_eq, Bool.true_eq_false, reduceCtorEq, ne_eq]; done) | (simp [mkCost, c115, c116, c117, c118]; done) | (simp only [mkCost, c115, c116, c117, eq_true c118, decide_true, decide_false, Bool.not_true, Bool.not_false, Bool.and_true, Bool.true_and, Bool.and_false, Bool.false_and, Bool.or_true, Bool.true_or, Bool.or_false, Bool.false_or, Bool.and_self, Bool.or_self, if_true, if_false, ite_true, ite_false, Bool.false_eq_true, reduceIte, not_true_eq_false, not_false_eq_true, and_true, true_and, and_false, false_and, or_true, true_or, or_false, false_or, and_self, or_self, eq_self, decide_eq_true_eq, Bool.true_eq_false, reduceCtorEq, ne_eq]; done) | (simp [mkCost, c115, c116, c117, eq_true c118]; done)
                              rw [e120] at J114
                              exact J114
                          · skip
                            refine lv_iconst (v := 4) hx hb dX3_make_326 (by decide) ?_
                            refine lv_iload_n hx hb dX3_make_327 rfl (lv_at hl 3 rfl) ?_
                            refine lv_imul hx hb dX3_make_328 ?_
                            refine lv_goto (tgt := 346) hx hb dX3_make_329 (by decide) ?_
                            have e121 : mkCost k z = 4 * z := by first | (simp only [mkCost, c115, c116, c117, decide_true, decide_false, Bool.not_true, Bool.not_false, Bool.and_true, Bool.true_and, Bool.and_false, Bool.false_and, Bool.or_true, Bool.true_or, Bool.or_false, Bool.false_or, Bool.and_self, Bool.or_self, if_true, if_false, ite_true, ite_false, Bool.false_eq_true, reduceIte, not_true_eq_false, not_false_eq_true, and_true, true_and, and_false, false_and, or_true, true_or, or_false, false_or, and_self, or_self, eq_self, decide_eq_true_eq, Bool.true_eq_false, reduceCtorEq, ne_eq]; done) | (simp [mkCost, c115, c116, c117]; done) | (simp only [mkCost, c115, c116, eq_true c117, decide_true, decide_false, Bool.not_true, Bool.not_false, Bool.and_true, Bool.true_and, Bool.and_false, Bool.false_and, Bool.or_true, Bool.true_or, Bool.or_false, Bool.false_or, Bool.and_self, Bool.or_self, if_true, if_false, ite_true, ite_false, Bool.false_eq_true, reduceIte, not_true_eq_false, not_false_eq_true, and_true, true_and, and_false, false_and, or_true, true_or, or_false, false_or, and_self, or_self, eq_self, decide_eq_true_eq, Bool.true_eq_false, reduceCtorEq, ne_eq]; done) | (simp [mkCost, c115, c116, eq_true c117]; done)
                            rw [e121] at J114
                            exact J114
                        · skip
                          refine lv_bipush (v := 8) hx hb dX3_make_313 (by decide) ?_
                          refine lv_iload_n hx hb dX3_make_315 rfl (lv_at hl 3 rfl) ?_
                          refine lv_imul hx hb dX3_make_316 ?_
                          refine lv_goto (tgt := 346) hx hb dX3_make_317 (by decide) ?_
                          have e122 : mkCost k z = 8 * z := by first | (simp only [mkCost, c115, c116, decide_true, decide_false, Bool.not_true, Bool.not_false, Bool.and_true, Bool.true_and, Bool.and_false, Bool.false_and, Bool.or_true, Bool.true_or, Bool.or_false, Bool.false_or, Bool.and_self, Bool.or_self, if_true, if_false, ite_true, ite_false, Bool.false_eq_true, reduceIte, not_true_eq_false, not_false_eq_true, and_true, true_and, and_false, false_and, or_true, true_or, or_false, false_or, and_self, or_self, eq_self, decide_eq_true_eq, Bool.true_eq_false, reduceCtorEq, ne_eq]; done) | (simp [mkCost, c115, c116]; done) | (simp only [mkCost, c115, eq_true c116, decide_true, decide_false, Bool.not_true, Bool.not_false, Bool.and_true, Bool.true_and, Bool.and_false, Bool.false_and, Bool.or_true, Bool.true_or, Bool.or_false, Bool.false_or, Bool.and_self, Bool.or_self, if_true, if_false, ite_true, ite_false, Bool.false_eq_true, reduceIte, not_true_eq_false, not_false_eq_true, and_true, true_and, and_false, false_and, or_true, true_or, or_false, false_or, and_self, or_self, eq_self, decide_eq_true_eq, Bool.true_eq_false, reduceCtorEq, ne_eq]; done) | (simp [mkCost, c115, eq_true c116]; done)
                          rw [e122] at J114
                          exact J114
                      · skip
                        refine lv_iload_n hx hb dX3_make_304 rfl (lv_at hl 3 rfl) ?_
                        refine lv_goto (tgt := 346) hx hb dX3_make_305 (by decide) ?_
                        have e123 : mkCost k z = z := by first | (simp only [mkCost, c115, decide_true, decide_false, Bool.not_true, Bool.not_false, Bool.and_true, Bool.true_and, Bool.and_false, Bool.false_and, Bool.or_true, Bool.true_or, Bool.or_false, Bool.false_or, Bool.and_self, Bool.or_self, if_true, if_false, ite_true, ite_false, Bool.false_eq_true, reduceIte, not_true_eq_false, not_false_eq_true, and_true, true_and, and_false, false_and, or_true, true_or, or_false, false_or, and_self, or_self, eq_self, decide_eq_true_eq, Bool.true_eq_false, reduceCtorEq, ne_eq]; done) | (simp [mkCost, c115]; done) | (simp only [mkCost, eq_true c115, decide_true, decide_false, Bool.not_true, Bool.not_false, Bool.and_true, Bool.true_and, Bool.and_false, Bool.false_and, Bool.or_true, Bool.true_or, Bool.or_false, Bool.false_or, Bool.and_self, Bool.or_self, if_true, if_false, ite_true, ite_false, Bool.false_eq_true, reduceIte, not_true_eq_false, not_false_eq_true, and_true, true_and, and_false, false_and, or_true, true_or, or_false, false_or, and_self, or_self, eq_self, decide_eq_true_eq, Bool.true_eq_false, reduceCtorEq, ne_eq]; done) | (simp [mkCost, eq_true c115]; done)
                        rw [e123] at J114
                        exact J114
                    refine lv_iadd hx hb dX3_make_346 ?_
                    refine lv_iadd hx hb dX3_make_347 ?_
                    refine mFput2 (ad := ad) hx hb hts iwX3 hown hK hP hD hS (hts (.fieldLink RX3 13 "ObjectRowsModel" "used" "I") (by decide +kernel)) dX3_make_348 (fun H locs hP hD hS => ?_)
                    refine lv_aload_n hx hb dX3_make_351 rfl (lv_at hl 1 rfl) ?_
                    refine lv_dup hx hb dX3_make_352 rfl ?_
                    refine va_get (D := D) (ci := 4) (v := .int (mMany (mSetUsed (mUp (mUp (mUp (elS k z (mMany t) (zbS (mUp (mUp (fBlank (fCopy (mUp (mUp (mSetSaves (mSetThr t 0) ((mSaves t) + 1)) 13 ((mSaves t) + 1) (mMany t)) 14 ((mSaves t) + 1) (mUsed t)) 0 (sv + 1)) (mMany t) k (fBlankV k)) 1 (mMany t) (mkNum k z (mMany t))) 3 (mMany t) (mkLen k z)) c0 64) c0 32) 8 (mMany t) (mkCap k z)) 9 (mMany t) (vp_nar .boolean 0)) 10 (mMany t) 0) ((mUsed t) + (8 + (mkCost k z)))))) (C := RX3) (T := TX3) (N := 19) hx hb hts iwX3 hown hK hP 0 rfl rfl 1 (by decide) (hts (.fieldLink RX3 7 "ObjectRowsModel" "many" "I") (by decide +kernel)) (fun _ h9 => h9) rfl dX3_make_353 ?_
                    refine lv_topi (fun y124 ey124 => ?_)
                    obtain rfl : y124 = mMany t := ey124.trans (flMany_used.trans (flMany_up.trans (flMany_up.trans (flMany_up.trans (flMany_el.trans (flMany_zb.trans (flMany_up.trans (flMany_up.trans (flMany_blank.trans (flMany_copy.trans (flMany_up.trans (flMany_up.trans (flMany_saves.trans (flMany_thr))))))))))))))
                    refine lv_iconst (v := 1) hx hb dX3_make_356 (by decide) ?_
                    refine lv_iadd hx hb dX3_make_357 ?_
                    refine mFput1 (ad := ad) hx hb hts iwX3 hown hK hP hD hS (hts (.fieldLink RX3 7 "ObjectRowsModel" "many" "I") (by decide +kernel)) dX3_make_358 (fun H locs hP hD hS => ?_)
                    refine lv_iload_n hx hb dX3_make_361 rfl (lv_at hl 4 rfl) ?_
                    refine W.widen (k := 0) (n := 0) (by omega) (by omega) ?_
                    exact weI (wf := fun u : MS => mW Y ad u) (mSetMany (mSetUsed (mUp (mUp (mUp (elS k z (mMany t) (zbS (mUp (mUp (fBlank (fCopy (mUp (mUp (mSetSaves (mSetThr t 0) ((mSaves t) + 1)) 13 ((mSaves t) + 1) (mMany t)) 14 ((mSaves t) + 1) (mUsed t)) 0 (sv + 1)) (mMany t) k (fBlankV k)) 1 (mMany t) (mkNum k z (mMany t))) 3 (mMany t) (mkLen k z)) c0 64) c0 32) 8 (mMany t) (mkCap k z)) 9 (mMany t) (vp_nar .boolean 0)) 10 (mMany t) 0) ((mUsed t) + (8 + (mkCost k z)))) ((mMany t) + 1)) hx hb hr hlocks hP hD hS dX3_make_362 (⟨by simp only [fMake, fMakeS, fMkSave, b2, b6, c9, eq_true c10, c69, decide_true, decide_false, Bool.not_true, Bool.not_false, Bool.and_true, Bool.true_and, Bool.and_false, Bool.false_and, Bool.or_true, Bool.true_or, Bool.or_false, Bool.false_or, Bool.and_self, Bool.or_self, if_true, if_false, ite_true, ite_false, Bool.false_eq_true, reduceIte, not_true_eq_false, not_false_eq_true, and_true, true_and, and_false, false_and, or_true, true_or, or_false, false_or, and_self, or_self, eq_self, decide_eq_true_eq, Bool.true_eq_false, reduceCtorEq, ne_eq], by simp only [fMake, fMakeS, fMkSave, b2, b6, c9, eq_true c10, c69, decide_true, decide_false, Bool.not_true, Bool.not_false, Bool.and_true, Bool.true_and, Bool.and_false, Bool.false_and, Bool.or_true, Bool.true_or, Bool.or_false, Bool.false_or, Bool.and_self, Bool.or_self, if_true, if_false, ite_true, ite_false, Bool.false_eq_true, reduceIte, not_true_eq_false, not_false_eq_true, and_true, true_and, and_false, false_and, or_true, true_or, or_false, false_or, and_self, or_self, eq_self, decide_eq_true_eq, Bool.true_eq_false, reduceCtorEq, ne_eq]⟩)
                  | succ n ih =>
                    intro q T H locs ls hz hT hP hD hS hl
                    have c125 : ¬ (32 : Int32) ≤ nI q := ltN (N := 32) (by omega) rfl (by omega)
                    refine lv_iload hx hb dX3_make_214 (lv_at hl 0 rfl) ?_
                    refine lv_bipush (v := 32) hx hb dX3_make_216 (by decide) ?_
                    refine lv_icmp_ge (tgt := 261) hx hb dX3_make_218 (by decide) (fun c126 => absurd c126 c125) (fun _ => ?_)
                    refine lv_aload_n hx hb dX3_make_221 rfl (lv_at hl 1 rfl) ?_
                    refine va_get (D := D) (ci := 4) (v := .ref (mH ad 7)) (C := RX3) (T := TX3) (N := 19) hx hb hts iwX3 hown hK hP 0 rfl rfl 11 (by decide) (hts (.fieldLink RX3 40 "ObjectRowsModel" "elements" "[I") (by decide +kernel)) (fun _ h9 => h9) rfl dX3_make_222 ?_
                    refine lv_bipush (v := 32) hx hb dX3_make_225 (by decide) ?_
                    refine lv_iload_n hx hb dX3_make_227 rfl (lv_at hl 4 rfl) ?_
                    refine lv_imul hx hb dX3_make_228 ?_
                    refine lv_iload hx hb dX3_make_229 (lv_at hl 0 rfl) ?_
                    refine lv_iadd hx hb dX3_make_231 ?_
                    suffices J127 : W p l e ({ frames := 2, cells := 0, slots := 0, locals := 44 }) s m ([.ref (mO ad), .int k, .int z] : List Value).toArray below meth c H locs (0) (0) (MQ below (va_Qi (fun (ans : Int32) (u : MS) => ans = (fMake t k z c0 sv).1 ∧ u = (fMake t k z c0 sv).2) (wrB D A (fun u : MS => mW Y ad u)) A) ([.ref (mO ad), .int k, .int z] : List Value).toArray s (0) (0) A) (F0 m 254 ls [.int (mkEl k z (mMany t) (nI q)), .int ((32 * (mMany t)) + (nI q)), .ref (mH ad 7)]) by
                      refine lv_iload_n hx hb dX3_make_232 rfl (lv_at hl 2 rfl) ?_
                      refine lv_bipush (v := 6) hx hb dX3_make_233 (by decide) ?_
                      refine lv_icmp_ne (tgt := 253) hx hb dX3_make_235 (by decide) (fun c128 => ?_) (fun c128 => ?_)
                      · skip
                        refine lv_iconst (v := 0) hx hb dX3_make_253 (by decide) ?_
                        have e129 : mkEl k z (mMany t) (nI q) = 0 := by first | (simp only [mkEl, c128, decide_true, decide_false, Bool.not_true, Bool.not_false, Bool.and_true, Bool.true_and, Bool.and_false, Bool.false_and, Bool.or_true, Bool.true_or, Bool.or_false, Bool.false_or, Bool.and_self, Bool.or_self, if_true, if_false, ite_true, ite_false, Bool.false_eq_true, reduceIte, not_true_eq_false, not_false_eq_true, and_true, true_and, and_false, false_and, or_true, true_or, or_false, false_or, and_self, or_self, eq_self, decide_eq_true_eq, Bool.true_eq_false, reduceCtorEq, ne_eq]; done) | (simp [mkEl, c128]; done)
                        rw [e129] at J127
                        exact J127
                      · skip
                        refine lv_iload hx hb dX3_make_238 (lv_at hl 0 rfl) ?_
                        refine lv_iload_n hx hb dX3_make_240 rfl (lv_at hl 3 rfl) ?_
                        refine lv_icmp_ge (tgt := 253) hx hb dX3_make_241 (by decide) (fun c130 => ?_) (fun c130 => ?_)
                        · skip
                          refine lv_iconst (v := 0) hx hb dX3_make_253 (by decide) ?_
                          have e131 : mkEl k z (mMany t) (nI q) = 0 := by first | (simp only [mkEl, c128, c130, decide_true, decide_false, Bool.not_true, Bool.not_false, Bool.and_true, Bool.true_and, Bool.and_false, Bool.false_and, Bool.or_true, Bool.true_or, Bool.or_false, Bool.false_or, Bool.and_self, Bool.or_self, if_true, if_false, ite_true, ite_false, Bool.false_eq_true, reduceIte, not_true_eq_false, not_false_eq_true, and_true, true_and, and_false, false_and, or_true, true_or, or_false, false_or, and_self, or_self, eq_self, decide_eq_true_eq, Bool.true_eq_false, reduceCtorEq, ne_eq]; done) | (simp [mkEl, c128, c130, Int32.not_lt.mpr c130]; done) | (simp only [mkEl, eq_true c128, c130, decide_true, decide_false, Bool.not_true, Bool.not_false, Bool.and_true, Bool.true_and, Bool.and_false, Bool.false_and, Bool.or_true, Bool.true_or, Bool.or_false, Bool.false_or, Bool.and_self, Bool.or_self, if_true, if_false, ite_true, ite_false, Bool.false_eq_true, reduceIte, not_true_eq_false, not_false_eq_true, and_true, true_and, and_false, false_and, or_true, true_or, or_false, false_or, and_self, or_self, eq_self, decide_eq_true_eq, Bool.true_eq_false, reduceCtorEq, ne_eq]; done) | (simp [mkEl, eq_true c128, c130, Int32.not_lt.mpr c130]; done)
                          rw [e131] at J127
                          exact J127
                        · skip
                          refine lv_iload_n hx hb dX3_make_244 rfl (lv_at hl 4 rfl) ?_
                          refine lv_iload_n hx hb dX3_make_245 rfl (lv_at hl 3 rfl) ?_
                          refine lv_isub hx hb dX3_make_246 ?_
                          refine lv_iload hx hb dX3_make_247 (lv_at hl 0 rfl) ?_
                          refine lv_iadd hx hb dX3_make_249 ?_
                          refine lv_goto (tgt := 254) hx hb dX3_make_250 (by decide) ?_
                          have e132 : mkEl k z (mMany t) (nI q) = ((mMany t) - z) + (nI q) := by first | (simp only [mkEl, c128, c130, decide_true, decide_false, Bool.not_true, Bool.not_false, Bool.and_true, Bool.true_and, Bool.and_false, Bool.false_and, Bool.or_true, Bool.true_or, Bool.or_false, Bool.false_or, Bool.and_self, Bool.or_self, if_true, if_false, ite_true, ite_false, Bool.false_eq_true, reduceIte, not_true_eq_false, not_false_eq_true, and_true, true_and, and_false, false_and, or_true, true_or, or_false, false_or, and_self, or_self, eq_self, decide_eq_true_eq, Bool.true_eq_false, reduceCtorEq, ne_eq]; done) | (simp [mkEl, c128, c130, Int32.not_le.mp c130]; done) | (simp only [mkEl, eq_true c128, c130, decide_true, decide_false, Bool.not_true, Bool.not_false, Bool.and_true, Bool.true_and, Bool.and_false, Bool.false_and, Bool.or_true, Bool.true_or, Bool.or_false, Bool.false_or, Bool.and_self, Bool.or_self, if_true, if_false, ite_true, ite_false, Bool.false_eq_true, reduceIte, not_true_eq_false, not_false_eq_true, and_true, true_and, and_false, false_and, or_true, true_or, or_false, false_or, and_self, or_self, eq_self, decide_eq_true_eq, Bool.true_eq_false, reduceCtorEq, ne_eq]; done) | (simp [mkEl, eq_true c128, c130, Int32.not_le.mp c130]; done)
                          rw [e132] at J127
                          exact J127
                    refine mAst7 (ad := ad) hx hb hK hP hD hS (by rw [hmc]; exact ixI (w := 32) (a := c0) (z := q) (N := 12800) rfl rfl (by have := hc100 c9; omega) (by omega)) dX3_make_254 (fun H locs hP hD hS => ?_)
                    obtain ⟨z133, ez133⟩ : ∃ y : Int32, y = nI q + 1 := ⟨_, rfl⟩
                    refine lv_iinc (v := z133) (lv' := [(5, .int z133), (0, .ref (mO ad)), (1, .int k), (2, .int z), (3, .int (mMany t)), (4, .int (mkNumB k))]) hx hb dX3_make_255 hl (k := 0) rfl (by rw [ez133]; rfl) (by decide) rfl (fun ls hl => ?_)
                    refine lv_goto (tgt := 214) hx hb dX3_make_258 (by decide) ?_
                    obtain rfl : z133 = nI (q + 1) := ez133.trans (nI_1 q)
                    exact ih (q + 1) _ _ _ _ (by omega) (by subst hT; exact elStep hmc (hc100 c9) (by omega)) hP hD hS (lv_sub hl [0, 1, 2, 3, 4, 5] rfl)
                exact LP106 32 0 _ _ _ _ (by omega) (el0 _ _ _ _ _) hP hD hS (by first | exact lv_sub hl [0, 1, 2, 3, 4, 5] rfl | (rw [nI_0]; exact lv_sub hl [0, 1, 2, 3, 4, 5] rfl))
              | succ n ih =>
                intro q T H locs ls hz hT hP hD hS hl
                have c134 : ¬ (64 : Int32) ≤ nI q := ltN (N := 64) (by omega) rfl (by omega)
                refine lv_iload hx hb dX3_make_185 (lv_at hl 0 rfl) ?_
                refine lv_bipush (v := 64) hx hb dX3_make_187 (by decide) ?_
                refine lv_icmp_ge (tgt := 211) hx hb dX3_make_189 (by decide) (fun c135 => absurd c135 c134) (fun _ => ?_)
                refine lv_aload_n hx hb dX3_make_192 rfl (lv_at hl 1 rfl) ?_
                refine va_get (D := D) (ci := 4) (v := .ref (mH ad 4)) (C := RX3) (T := TX3) (N := 19) hx hb hts iwX3 hown hK hP 0 rfl rfl 8 (by decide) (hts (.fieldLink RX3 29 "ObjectRowsModel" "bytes" "[B") (by decide +kernel)) (fun _ h9 => h9) rfl dX3_make_193 ?_
                refine lv_bipush (v := 64) hx hb dX3_make_196 (by decide) ?_
                refine lv_iload_n hx hb dX3_make_198 rfl (lv_at hl 4 rfl) ?_
                refine lv_imul hx hb dX3_make_199 ?_
                refine lv_iload hx hb dX3_make_200 (lv_at hl 0 rfl) ?_
                refine lv_iadd hx hb dX3_make_202 ?_
                refine lv_iconst (v := 0) hx hb dX3_make_203 (by decide) ?_
                refine mAst4 (ad := ad) hx hb hK hP hD hS (by rw [hmc]; exact ixI (w := 64) (a := c0) (z := q) (N := 6400) rfl rfl (by have := hc100 c9; omega) (by omega)) dX3_make_204 (fun H locs hP hD hS => ?_)
                obtain ⟨z136, ez136⟩ : ∃ y : Int32, y = nI q + 1 := ⟨_, rfl⟩
                refine lv_iinc (v := z136) (lv' := [(5, .int z136), (0, .ref (mO ad)), (1, .int k), (2, .int z), (3, .int (mMany t)), (4, .int (mkNumB k))]) hx hb dX3_make_205 hl (k := 0) rfl (by rw [ez136]; rfl) (by decide) rfl (fun ls hl => ?_)
                refine lv_goto (tgt := 185) hx hb dX3_make_208 (by decide) ?_
                obtain rfl : z136 = nI (q + 1) := ez136.trans (nI_1 q)
                exact ih (q + 1) _ _ _ _ (by omega) (by subst hT; exact zbStep hmc (hc100 c9) (by omega)) hP hD hS (lv_sub hl [0, 1, 2, 3, 4, 5] rfl)
            exact LP103 64 0 _ _ _ _ (by omega) (zb0 _ _) hP hD hS (by first | exact lv_sub hl [0, 3, 4, 5, 2, 1] rfl | (rw [nI_0]; exact lv_sub hl [0, 3, 4, 5, 2, 1] rfl))
          · skip
            refine lv_bipush (v := (-4)) hx hb dX3_make_52 (by decide) ?_
            refine W.widen (k := 0) (n := 0) (by omega) (by omega) ?_
            exact weI (wf := fun u : MS => mW Y ad u) (mSetThr t 0) hx hb hr hlocks hP hD hS dX3_make_54 (⟨by simp only [fMake, fMakeS, fMkSave, b2, b6, c9, eq_true c10, eq_true c69, decide_true, decide_false, Bool.not_true, Bool.not_false, Bool.and_true, Bool.true_and, Bool.and_false, Bool.false_and, Bool.or_true, Bool.true_or, Bool.or_false, Bool.false_or, Bool.and_self, Bool.or_self, if_true, if_false, ite_true, ite_false, Bool.false_eq_true, reduceIte, not_true_eq_false, not_false_eq_true, and_true, true_and, and_false, false_and, or_true, true_or, or_false, false_or, and_self, or_self, eq_self, decide_eq_true_eq, Bool.true_eq_false, reduceCtorEq, ne_eq], by simp only [fMake, fMakeS, fMkSave, b2, b6, c9, eq_true c10, eq_true c69, decide_true, decide_false, Bool.not_true, Bool.not_false, Bool.and_true, Bool.true_and, Bool.and_false, Bool.false_and, Bool.or_true, Bool.true_or, Bool.or_false, Bool.false_or, Bool.and_self, Bool.or_self, if_true, if_false, ite_true, ite_false, Bool.false_eq_true, reduceIte, not_true_eq_false, not_false_eq_true, and_true, true_and, and_false, false_and, or_true, true_or, or_false, false_or, and_self, or_self, eq_self, decide_eq_true_eq, Bool.true_eq_false, reduceCtorEq, ne_eq]⟩)
theorem hdX3_make : yX3_make.cls = RX3 ∧ yX3_make.cls ≠ "java/lang/invoke/MethodHandle" ∧ yX3_make.cls ≠ "java/lang/invoke/VarHandle" ∧ (parseMethodDescriptor yX3_make.desc).map (fun d => d.parameters.length) = some 2 := by decide +kernel
