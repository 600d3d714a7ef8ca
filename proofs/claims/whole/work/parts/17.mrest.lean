theorem lv_toE {p : Program} {l : Launch} {e : Env} {R : Room} {s : State} {m : MethodId} {args : Array Value} {below : List Frame} {meth : Method} {c : Code} {H : Heap} {locs : List Loc} {cells slots : Nat} {Q : State → Prop} {pc : Nat} {ls : Array Slot} {rest : List Value} {x y : Int32} (h : x = y) (k : W p l e R s m args below meth c H locs cells slots Q (F0 m pc ls (.int y :: rest))) : W p l e R s m args below meth c H locs cells slots Q (F0 m pc ls (.int x :: rest)) := by
  subst h
  exact k
def fRestore (t : MS) (o : Int32) (j : Nat) : Int32 × MS := if qObj t o = false then (-1, mSetThr t 0) else if ¬ mK t o = 11 then (-3, mSetThr t 0) else (o, mSetSaves (mSetUsed (mSetMany (fCopy (mSetThr t 0) j 0) o) (mSu t (nI j))) (nI j - 1))
theorem cp14 {T : MS} {a b : Nat} : mI (fCopy T a b) 14 = mI T 14 := rfl
set_option maxHeartbeats 4000000 in
set_option maxRecDepth 100000 in
theorem c_X3_restore (l : Launch) (D : va_G) (Y : Nat → ClassId) (ad : MA) (t : MS) (j0 : Nat) (sz : Nat) (o : Int32) (hv : ∀ o, qObj t o = true → mV t o) (hj : qObj t o = true → mK t o = 11 → 1 ≤ j0 ∧ j0 < 4 ∧ mSo t (nI j0) = o ∧ ∀ i, 1 ≤ i → i < j0 → ¬ mSo t (nI i) = o) (h5 : ∀ j, vp_nar .boolean (mI t 5 j) = mI t 5 j) (h9 : ∀ j, vp_nar .boolean (mI t 9 j) = mI t 9 j) : Met l yX3_restore wsX3_restore ({ frames := 1, cells := 0, slots := 0, locals := 23 }) (wrPc D Y [.ref (mO ad), .int o] (mW Y ad t) sz) (va_Qi (fun (ans : Int32) (u : MS) => ans = (fRestore t o j0).1 ∧ u = (fRestore t o j0).2) (wrB D (va_A (mW Y ad t) sz) (fun u : MS => mW Y ad u)) (va_A (mW Y ad t) sz)) (0) (0) (va_A (mW Y ad t) sz) := by
  refine wrOf (Qc := fun A => va_Qi (fun (ans : Int32) (u : MS) => ans = (fRestore t o j0).1 ∧ u = (fRestore t o j0).2) (wrB D A (fun u : MS => mW Y ad u)) A) (cc := cX3_restore) (maxL := 3) (ret := (some .int)) (own := RX3) (by decide) rfl rfl (Nat.le_of_ble_eq_true rfl) ?_
  intro p e s m below meth c ls A hx hb hr hts hown hml hlocks hin hA hP hD hS hK hl
  have iwX3 : ∀ w ∈ u_ws RX3 TX3 19, w ∈ wsX3_restore := fun _ h => List.mem_cons_of_mem _ (List.mem_append_right _ h)
  have hl : lv_has ls 3 [(0, .ref (mO ad)), (1, .int o)] := hl
  have hS : va_S A s.heap s.heap [] := hS
  refine lv_aload_n hx hb dX3_restore_0 rfl (lv_at hl 0 rfl) ?_
  refine lv_iconst (v := 0) hx hb dX3_restore_1 (by decide) ?_
  refine mFput0 (ad := ad) hx hb hts iwX3 hown hK hP hD hS (hts (.fieldLink RX3 65 "ObjectRowsModel" "thrown" "I") (by decide +kernel)) dX3_restore_2 (fun H locs hP hD hS => ?_)
  refine lv_aload_n hx hb dX3_restore_5 rfl (lv_at hl 0 rfl) ?_
  refine lv_iload_n hx hb dX3_restore_6 rfl (lv_at hl 1 rfl) ?_
  refine rcI (As := [.int o]) (rest := []) ⟨hx, hb, hml, hown, hts⟩ (c_X3_isObject l D Y ad (mSetThr t 0) o ) (cwV 1 hts gX3_restore_X3_isObject rfl rfl rfl hdX3_isObject ⟨Nat.le_of_ble_eq_true rfl, Nat.le_of_ble_eq_true rfl⟩) hP hK 0 4 rfl rfl rfl hl.1 rfl (Nat.le_of_ble_eq_true rfl) dX3_restore_7 ⟨(Nat.zero_le _), (Nat.zero_le _)⟩ (fun r1 hr1 => ?_)
  replace hr1 : r1 = bI (qObj t o) := hr1
  cases b2 : qObj t o
  · replace hr1 : r1 = 0 := by rw [hr1, b2]; rfl
    subst hr1
    refine lv_if_ne (tgt := 15) hx hb dX3_restore_10 (by decide) (fun c3 => absurd (by decide) c3) (fun _ => ?_)
    refine lv_iconst (v := (-1)) hx hb dX3_restore_13 (by decide) ?_
    refine W.widen (k := 0) (n := 0) (by omega) (by omega) ?_
    exact weI (wf := fun u : MS => mW Y ad u) (mSetThr t 0) hx hb hr hlocks hP hD hS dX3_restore_14 (⟨by simp only [fRestore, b2, decide_true, decide_false, Bool.not_true, Bool.not_false, Bool.and_true, Bool.true_and, Bool.and_false, Bool.false_and, Bool.or_true, Bool.true_or, Bool.or_false, Bool.false_or, Bool.and_self, Bool.or_self, if_true, if_false, ite_true, ite_false, Bool.false_eq_true, reduceIte, not_true_eq_false, not_false_eq_true, and_true, true_and, and_false, false_and, or_true, true_or, or_false, false_or, and_self, or_self, eq_self, decide_eq_true_eq, Bool.true_eq_false, reduceCtorEq, ne_eq], by simp only [fRestore, b2, decide_true, decide_false, Bool.not_true, Bool.not_false, Bool.and_true, Bool.true_and, Bool.and_false, Bool.false_and, Bool.or_true, Bool.true_or, Bool.or_false, Bool.false_or, Bool.and_self, Bool.or_self, if_true, if_false, ite_true, ite_false, Bool.false_eq_true, reduceIte, not_true_eq_false, not_false_eq_true, and_true, true_and, and_false, false_and, or_true, true_or, or_false, false_or, and_self, or_self, eq_self, decide_eq_true_eq, Bool.true_eq_false, reduceCtorEq, ne_eq]⟩)
  · replace hr1 : r1 = 1 := by rw [hr1, b2]; rfl
    subst hr1
    refine lv_if_ne (tgt := 15) hx hb dX3_restore_10 (by decide) (fun _ => ?_) (fun c4 => absurd c4 (by decide))
    refine lv_aload_n hx hb dX3_restore_15 rfl (lv_at hl 0 rfl) ?_
    refine va_get (D := D) (ci := 4) (v := .ref (mH ad 0)) (C := RX3) (T := TX3) (N := 19) hx hb hts iwX3 hown hK hP 0 rfl rfl 4 (by decide) (hts (.fieldLink RX3 16 "ObjectRowsModel" "kinds" "[I") (by decide +kernel)) (fun _ h9 => h9) rfl dX3_restore_16 ?_
    refine lv_iload_n hx hb dX3_restore_19 rfl (lv_at hl 1 rfl) ?_
    refine va_iald hx hb hK hP 1 0 rfl rfl (hv o b2).1 dX3_restore_20 ?_
    refine lv_topi (fun y5 ey5 => ?_)
    obtain rfl : y5 = mK t o := ey5
    refine lv_bipush (v := 11) hx hb dX3_restore_21 (by decide) ?_
    refine lv_icmp_eq (tgt := 29) hx hb dX3_restore_23 (by decide) (fun c6 => ?_) (fun c6 => ?_)
    · skip
      refine lv_iconst (v := 1) hx hb dX3_restore_29 (by decide) ?_
      refine lv_istore_n (lv' := [(2, .int 1), (0, .ref (mO ad)), (1, .int o)]) hx hb dX3_restore_30 rfl hl (by decide) rfl (fun ls hl => ?_)
      obtain ⟨hj1, hj4, hjo, hjn⟩ := hj b2 c6
      have LP : ∀ (n q : Nat) (ls : Array Slot), q + n = j0 → 1 ≤ q → lv_has ls 3 [(2, .int (nI q)), (0, .ref (mO ad)), (1, .int o)] → W p l e ({ frames := 1, cells := 0, slots := 0, locals := 23 }) s m ([.ref (mO ad), .int o] : List Value).toArray below meth c H locs 0 0 (MQ below (va_Qi (fun (ans : Int32) (u : MS) => ans = (fRestore t o j0).1 ∧ u = (fRestore t o j0).2) (wrB D A (fun u : MS => mW Y ad u)) A) ([.ref (mO ad), .int o] : List Value).toArray s (0) (0) A) (F0 m 31 ls []) := by
        intro n
        induction n with
        | zero =>
          intro q ls hz hq hl
          obtain rfl : q = j0 := by omega
          refine lv_aload_n hx hb dX3_restore_31 rfl (lv_at hl 1 rfl) ?_
          refine va_get (D := D) (ci := 4) (v := .ref (mH ad 13)) (C := RX3) (T := TX3) (N := 19) hx hb hts iwX3 hown hK hP 0 rfl rfl 17 (by decide) (hts (.fieldLink RX3 59 "ObjectRowsModel" "saveObject" "[I") (by decide +kernel)) (fun _ h9 => h9) rfl dX3_restore_32 ?_
          refine lv_iload_n hx hb dX3_restore_35 rfl (lv_at hl 0 rfl) ?_
          refine va_iald hx hb hK hP 14 0 rfl rfl (vp_in_nI (by omega) (by omega)) dX3_restore_36 ?_
          refine lv_topi (fun y7 ey7 => ?_)
          obtain rfl : y7 = mSo t (nI q) := ey7
          refine lv_iload_n hx hb dX3_restore_37 rfl (lv_at hl 2 rfl) ?_
          refine lv_icmp_eq (tgt := 47) hx hb dX3_restore_38 (by decide) (fun _ => ?_) (fun c8 => absurd hjo c8)
          refine lv_aload_n hx hb dX3_restore_47 rfl (lv_at hl 1 rfl) ?_
          refine lv_iload_n hx hb dX3_restore_48 rfl (lv_at hl 0 rfl) ?_
          refine lv_iconst (v := 0) hx hb dX3_restore_49 (by decide) ?_
          refine lv_topi (fun y9 ey9 => ?_)
          obtain rfl : y9 = nI 0 := ey9.trans (nI_0.symm)
          refine wcV (As := [.int (nI q), .int (nI 0)]) (rest := []) ⟨hx, hb, hml, hown, hts⟩ (c_X3_copy l D Y ad (mSetThr t 0) q 0 H.size (by omega) (by omega) h5 h9) (cwV 2 hts gX3_restore_X3_copy rfl rfl rfl hdX3_copy ⟨Nat.le_of_ble_eq_true rfl, Nat.le_of_ble_eq_true rfl⟩) hP hD hK hS hA 0 4 rfl rfl rfl hl.1 rfl (Nat.le_of_ble_eq_true rfl) dX3_restore_50 ⟨by dsimp only; omega, by dsimp only; omega⟩ (frSelf hD hS hA) (fun u10 H locs hu10 hP hD hS => ?_)
          subst hu10
          have hP : va_P D vwCl (mW Y ad (fCopy (mSetThr t 0) q 0)) H := hP
          have hD : va_D A (mW Y ad (fCopy (mSetThr t 0) q 0)) := hD
          refine lv_aload_n hx hb dX3_restore_53 rfl (lv_at hl 1 rfl) ?_
          refine lv_iload_n hx hb dX3_restore_54 rfl (lv_at hl 2 rfl) ?_
          refine mFput1 (ad := ad) hx hb hts iwX3 hown hK hP hD hS (hts (.fieldLink RX3 7 "ObjectRowsModel" "many" "I") (by decide +kernel)) dX3_restore_55 (fun H locs hP hD hS => ?_)
          refine lv_aload_n hx hb dX3_restore_58 rfl (lv_at hl 1 rfl) ?_
          refine lv_aload_n hx hb dX3_restore_59 rfl (lv_at hl 1 rfl) ?_
          refine va_get (D := D) (ci := 4) (v := .ref (mH ad 14)) (C := RX3) (T := TX3) (N := 19) hx hb hts iwX3 hown hK hP 0 rfl rfl 18 (by decide) (hts (.fieldLink RX3 62 "ObjectRowsModel" "saveUsed" "[I") (by decide +kernel)) (fun _ h9 => h9) rfl dX3_restore_60 ?_
          refine lv_iload_n hx hb dX3_restore_63 rfl (lv_at hl 0 rfl) ?_
          refine va_iald hx hb hK hP 15 0 rfl rfl (vp_in_nI (by omega) (by omega)) dX3_restore_64 ?_
          refine lv_topi (fun y11 ey11 => ?_)
          obtain rfl : y11 = mSu t (nI q) := ey11.trans (congrFun (cp14 (T := mSetThr t 0) (a := q) (b := 0)) _)
          refine mFput2 (ad := ad) hx hb hts iwX3 hown hK hP hD hS (hts (.fieldLink RX3 13 "ObjectRowsModel" "used" "I") (by decide +kernel)) dX3_restore_65 (fun H locs hP hD hS => ?_)
          refine lv_aload_n hx hb dX3_restore_68 rfl (lv_at hl 1 rfl) ?_
          refine lv_iload_n hx hb dX3_restore_69 rfl (lv_at hl 0 rfl) ?_
          refine lv_iconst (v := 1) hx hb dX3_restore_70 (by decide) ?_
          refine lv_isub hx hb dX3_restore_71 ?_
          refine mFput3 (ad := ad) hx hb hts iwX3 hown hK hP hD hS (hts (.fieldLink RX3 80 "ObjectRowsModel" "saves" "I") (by decide +kernel)) dX3_restore_72 (fun H locs hP hD hS => ?_)
          refine lv_aload_n hx hb dX3_restore_75 rfl (lv_at hl 1 rfl) ?_
          refine va_get (D := D) (ci := 4) (v := .int (mMany (mSetSaves (mSetUsed (mSetMany (fCopy (mSetThr t 0) q 0) o) (mSu t (nI q))) ((nI q) - 1)))) (C := RX3) (T := TX3) (N := 19) hx hb hts iwX3 hown hK hP 0 rfl rfl 1 (by decide) (hts (.fieldLink RX3 7 "ObjectRowsModel" "many" "I") (by decide +kernel)) (fun _ h9 => h9) rfl dX3_restore_76 ?_
          refine lv_toE (y := o) (flMany_saves.trans (flMany_used.trans (flMany_many))) ?_
          refine W.widen (k := 0) (n := 0) (by omega) (by omega) ?_
          exact weI (wf := fun u : MS => mW Y ad u) (mSetSaves (mSetUsed (mSetMany (fCopy (mSetThr t 0) q 0) o) (mSu t (nI q))) ((nI q) - 1)) hx hb hr hlocks hP hD hS dX3_restore_79 (⟨by simp only [fRestore, b2, eq_true c6, decide_true, decide_false, Bool.not_true, Bool.not_false, Bool.and_true, Bool.true_and, Bool.and_false, Bool.false_and, Bool.or_true, Bool.true_or, Bool.or_false, Bool.false_or, Bool.and_self, Bool.or_self, if_true, if_false, ite_true, ite_false, Bool.false_eq_true, reduceIte, not_true_eq_false, not_false_eq_true, and_true, true_and, and_false, false_and, or_true, true_or, or_false, false_or, and_self, or_self, eq_self, decide_eq_true_eq, Bool.true_eq_false, reduceCtorEq, ne_eq], by simp only [fRestore, b2, eq_true c6, decide_true, decide_false, Bool.not_true, Bool.not_false, Bool.and_true, Bool.true_and, Bool.and_false, Bool.false_and, Bool.or_true, Bool.true_or, Bool.or_false, Bool.false_or, Bool.and_self, Bool.or_self, if_true, if_false, ite_true, ite_false, Bool.false_eq_true, reduceIte, not_true_eq_false, not_false_eq_true, and_true, true_and, and_false, false_and, or_true, true_or, or_false, false_or, and_self, or_self, eq_self, decide_eq_true_eq, Bool.true_eq_false, reduceCtorEq, ne_eq]⟩)
        | succ n ih =>
          intro q ls hz hq hl
          have c13 : ¬ mSo t (nI q) = o := hjn q hq (by omega)
          refine lv_aload_n hx hb dX3_restore_31 rfl (lv_at hl 1 rfl) ?_
          refine va_get (D := D) (ci := 4) (v := .ref (mH ad 13)) (C := RX3) (T := TX3) (N := 19) hx hb hts iwX3 hown hK hP 0 rfl rfl 17 (by decide) (hts (.fieldLink RX3 59 "ObjectRowsModel" "saveObject" "[I") (by decide +kernel)) (fun _ h9 => h9) rfl dX3_restore_32 ?_
          refine lv_iload_n hx hb dX3_restore_35 rfl (lv_at hl 0 rfl) ?_
          refine va_iald hx hb hK hP 14 0 rfl rfl (vp_in_nI (by omega) (by omega)) dX3_restore_36 ?_
          refine lv_topi (fun y14 ey14 => ?_)
          obtain rfl : y14 = mSo t (nI q) := ey14
          refine lv_iload_n hx hb dX3_restore_37 rfl (lv_at hl 2 rfl) ?_
          refine lv_icmp_eq (tgt := 47) hx hb dX3_restore_38 (by decide) (fun c15 => absurd c15 c13) (fun _ => ?_)
          obtain ⟨z16, ez16⟩ : ∃ y : Int32, y = nI q + 1 := ⟨_, rfl⟩
          refine lv_iinc (v := z16) (lv' := [(2, .int z16), (0, .ref (mO ad)), (1, .int o)]) hx hb dX3_restore_41 hl (k := 0) rfl (by rw [ez16]; rfl) (by decide) rfl (fun ls hl => ?_)
          refine lv_goto (tgt := 31) hx hb dX3_restore_44 (by decide) ?_
          obtain rfl : z16 = nI (q + 1) := ez16.trans (nI_1 q)
          exact ih (q + 1) _ (by omega) (by omega) (lv_sub hl [0, 1, 2] rfl)
      exact LP (j0 - 1) 1 _ (by omega) (by omega) (by first | exact lv_sub hl [0, 1, 2] rfl | (rw [show nI 1 = 1 from rfl]; exact lv_sub hl [0, 1, 2] rfl))
    · skip
      refine lv_bipush (v := (-3)) hx hb dX3_restore_26 (by decide) ?_
      refine W.widen (k := 0) (n := 0) (by omega) (by omega) ?_
      exact weI (wf := fun u : MS => mW Y ad u) (mSetThr t 0) hx hb hr hlocks hP hD hS dX3_restore_28 (⟨by simp only [fRestore, b2, c6, decide_true, decide_false, Bool.not_true, Bool.not_false, Bool.and_true, Bool.true_and, Bool.and_false, Bool.false_and, Bool.or_true, Bool.true_or, Bool.or_false, Bool.false_or, Bool.and_self, Bool.or_self, if_true, if_false, ite_true, ite_false, Bool.false_eq_true, reduceIte, not_true_eq_false, not_false_eq_true, and_true, true_and, and_false, false_and, or_true, true_or, or_false, false_or, and_self, or_self, eq_self, decide_eq_true_eq, Bool.true_eq_false, reduceCtorEq, ne_eq], by simp only [fRestore, b2, c6, decide_true, decide_false, Bool.not_true, Bool.not_false, Bool.and_true, Bool.true_and, Bool.and_false, Bool.false_and, Bool.or_true, Bool.true_or, Bool.or_false, Bool.false_or, Bool.and_self, Bool.or_self, if_true, if_false, ite_true, ite_false, Bool.false_eq_true, reduceIte, not_true_eq_false, not_false_eq_true, and_true, true_and, and_false, false_and, or_true, true_or, or_false, false_or, and_self, or_self, eq_self, decide_eq_true_eq, Bool.true_eq_false, reduceCtorEq, ne_eq]⟩)
theorem hdX3_restore : yX3_restore.cls = RX3 ∧ yX3_restore.cls ≠ "java/lang/invoke/MethodHandle" ∧ yX3_restore.cls ≠ "java/lang/invoke/VarHandle" ∧ (parseMethodDescriptor yX3_restore.desc).map (fun d => d.parameters.length) = some 1 := by decide +kernel
