def gPartE (t : OS) (x f n : Int32) : Int32 := if pKnown t x = false then -1 else if pView (kd t x) = false ∧ ¬ kd t x = 7 then -3 else if pView (kd t x) = true ∧ pHasPart t x f n = false then -2 else if pAcc t x < 2 then -3 else if 100 ≤ oCnt t then -4 else 0
set_option maxHeartbeats 4000000 in
set_option maxRecDepth 100000 in
theorem c_X2_part (l : Launch) (D : va_G) (Y : Nat → ClassId) (ad : OA) (t : OS) (sz : Nat) (x : Int32) (f : Int32) (n : Int32) (hok : oOK t) (hgd : ∀ k, k < 11 → k ≠ 5 → rGd (oR t k)) : Met l yX2_part wsX2_part ({ frames := 7, cells := 10, slots := oAddC t, locals := 174 }) (wrPc D Y [.ref (oO ad), .int x, .int f, .int n] (oW Y ad t) sz) (va_Qi (fun (ans : Int32) (v : OS) => (ans = gPartE t x f n ∧ ans ≠ 0 ∧ v = t) ∨ (gPartE t x f n = 0 ∧ ans = oCnt t ∧ ∃ u, oAddP t u (kd t x) 0 (sta t x + (if kd t x = 7 then 0 else f)) (if kd t x = 7 then 0 else n) ∧ v = gPartF u (oCnt t) x)) (wrB D (va_A (oW Y ad t) sz) (fun u : OS => oW Y ad u)) (va_A (oW Y ad t) sz)) (10) (oAddC t) (va_A (oW Y ad t) sz) := by
  refine wrOf (Qc := fun A => va_Qi (fun (ans : Int32) (v : OS) => (ans = gPartE t x f n ∧ ans ≠ 0 ∧ v = t) ∨ (gPartE t x f n = 0 ∧ ans = oCnt t ∧ ∃ u, oAddP t u (kd t x) 0 (sta t x + (if kd t x = 7 then 0 else f)) (if kd t x = 7 then 0 else n) ∧ v = gPartF u (oCnt t) x)) (wrB D A (fun u : OS => oW Y ad u)) A) (cc := cX2_part) (maxL := 5) (ret := (some .int)) (own := RX2) (by decide) rfl rfl (Nat.le_of_ble_eq_true rfl) ?_
  intro p e s m below meth c ls A hx hb hr hts hown hml hlocks hin hA hP hD hS hK hl
  have iwX2 : ∀ w ∈ u_ws RX2 TX2 10, w ∈ wsX2_part := fun _ h => List.mem_cons_of_mem _ (List.mem_append_left _ (List.mem_append_left _ (List.mem_append_right _ h)))
  have hl : lv_has ls 5 [(0, .ref (oO ad)), (1, .int x), (2, .int f), (3, .int n)] := hl
  have hS : va_S A s.heap s.heap [] := hS
  refine lv_aload_n hx hb dX2_part_0 rfl (lv_at hl 0 rfl) ?_
  refine lv_iload_n hx hb dX2_part_1 rfl (lv_at hl 1 rfl) ?_
  refine rcI (As := [.int x]) (rest := []) ⟨hx, hb, hml, hown, hts⟩ (c_X2_known l D Y ad t x hok) (cwV 1 hts gX2_part_X2_known rfl rfl rfl hdX2_known ⟨Nat.le_of_ble_eq_true rfl, Nat.le_of_ble_eq_true rfl⟩) hP hK 0 3 rfl rfl rfl hl.1 rfl (Nat.le_of_ble_eq_true rfl) dX2_part_2 ⟨(by dsimp only; omega), (by dsimp only; omega)⟩ (fun r1 hr1 => ?_)
  replace hr1 : r1 = bI (pKnown t x) := hr1
  cases b2 : pKnown t x
  · replace hr1 : r1 = 0 := by rw [hr1, b2]; rfl
    subst hr1
    refine lv_if_ne (tgt := 10) hx hb dX2_part_5 (by decide) (fun c3 => absurd (by decide) c3) (fun _ => ?_)
    refine lv_iconst (v := (-1)) hx hb dX2_part_8 (by decide) ?_
    refine W.widen (k := 10) (n := oAddC t) (by omega) (by omega) ?_
    exact weI (wf := fun u : OS => oW Y ad u) (t) hx hb hr hlocks hP hD hS dX2_part_9 (Or.inl ⟨by first | (simp only [gPartE, b2, decide_true, decide_false, Bool.not_true, Bool.not_false, Bool.and_true, Bool.true_and, Bool.and_false, Bool.false_and, Bool.or_true, Bool.true_or, Bool.or_false, Bool.false_or, Bool.and_self, Bool.or_self, if_true, if_false, ite_true, ite_false, Bool.false_eq_true, reduceIte, not_true_eq_false, not_false_eq_true, and_true, true_and, and_false, false_and, or_true, true_or, or_false, false_or, and_self, or_self, eq_self, decide_eq_true_eq, Bool.true_eq_false, reduceCtorEq, ne_eq]; done) | (simp [gPartE, b2]; done), by decide, rfl⟩)
  · replace hr1 : r1 = 1 := by rw [hr1, b2]; rfl
    subst hr1
    refine lv_if_ne (tgt := 10) hx hb dX2_part_5 (by decide) (fun _ => ?_) (fun c4 => absurd c4 (by decide))
    refine lv_aload_n hx hb dX2_part_10 rfl (lv_at hl 0 rfl) ?_
    refine va_get (D := D) (ci := 3) (v := .ref (oH ad 0)) (C := RX2) (T := TX2) (N := 10) hx hb hts iwX2 hown hK hP 0 rfl rfl 0 (by decide) (hts (.fieldLink RX2 12 "ObjectRows" "kinds" "LObjectRows$Row;") (by decide +kernel)) (fun _ h9 => h9) rfl dX2_part_11 ?_
    refine lv_iload_n hx hb dX2_part_14 rfl (lv_at hl 1 rfl) ?_
    refine rcI (As := [.int x]) (rest := []) ⟨hx, hb, hml, hown, hts⟩ (c_X1_at l D Y (oH ad 0) (oR t 0) x (hok 0 (by decide))) (cwV 1 hts gX2_part_X1_at rfl rfl rfl hdX1_at ⟨Nat.le_of_ble_eq_true rfl, Nat.le_of_ble_eq_true rfl⟩) (oWr0 hP) hK 0 2 rfl rfl rfl hl.1 rfl (Nat.le_of_ble_eq_true rfl) dX2_part_15 ⟨(by dsimp only; omega), (by dsimp only; omega)⟩ (fun r5 hr5 => ?_)
    obtain rfl : r5 = kd t x := hr5
    refine lv_istore (lv' := [(4, .int (kd t x)), (0, .ref (oO ad)), (1, .int x), (2, .int f), (3, .int n)]) hx hb dX2_part_18 hl (by decide) rfl (fun ls hl => ?_)
    refine lv_iload hx hb dX2_part_20 (lv_at hl 0 rfl) ?_
    refine scI (As := [.int (kd t x)]) (rest := []) ⟨hx, hb, hml, hown, hts⟩ (c_X2_isView l (kd t x)) (va_cwS 1 hts gX2_part_X2_isView rfl rfl rfl hdX2_isView ⟨Nat.le_of_ble_eq_true rfl, Nat.le_of_ble_eq_true rfl⟩) rfl hl.1 rfl (Nat.le_of_ble_eq_true rfl) dX2_part_22 ⟨(by dsimp only; omega), (by dsimp only; omega)⟩ (fun r6 hr6 => ?_)
    replace hr6 : r6 = bI (pView (kd t x)) := hr6
    cases b7 : pView (kd t x)
    · replace hr6 : r6 = 0 := by rw [hr6, b7]; rfl
      subst hr6
      refine lv_if_ne (tgt := 38) hx hb dX2_part_25 (by decide) (fun c8 => absurd (by decide) c8) (fun _ => ?_)
      refine lv_iload hx hb dX2_part_28 (lv_at hl 0 rfl) ?_
      refine lv_bipush (v := 7) hx hb dX2_part_30 (by decide) ?_
      refine lv_icmp_eq (tgt := 38) hx hb dX2_part_32 (by decide) (fun c9 => ?_) (fun c9 => ?_)
      · skip
        refine lv_iload hx hb dX2_part_38 (lv_at hl 0 rfl) ?_
        refine scI (As := [.int (kd t x)]) (rest := []) ⟨hx, hb, hml, hown, hts⟩ (c_X2_isView l (kd t x)) (va_cwS 1 hts gX2_part_X2_isView rfl rfl rfl hdX2_isView ⟨Nat.le_of_ble_eq_true rfl, Nat.le_of_ble_eq_true rfl⟩) rfl hl.1 rfl (Nat.le_of_ble_eq_true rfl) dX2_part_40 ⟨(by dsimp only; omega), (by dsimp only; omega)⟩ (fun r10 hr10 => ?_)
        replace hr10 : r10 = bI (pView (kd t x)) := hr10
        replace hr10 : r10 = 0 := by rw [hr10, b7]; rfl
        subst hr10
        refine lv_if_eq (tgt := 59) hx hb dX2_part_43 (by decide) (fun _ => ?_) (fun c11 => absurd (by decide) c11)
        refine lv_aload_n hx hb dX2_part_59 rfl (lv_at hl 1 rfl) ?_
        refine lv_iload_n hx hb dX2_part_60 rfl (lv_at hl 2 rfl) ?_
        refine rcI (As := [.int x]) (rest := []) ⟨hx, hb, hml, hown, hts⟩ (c_X2_accessOf l D Y ad t x hok) (cwV 1 hts gX2_part_X2_accessOf rfl rfl rfl hdX2_accessOf ⟨Nat.le_of_ble_eq_true rfl, Nat.le_of_ble_eq_true rfl⟩) hP hK 0 3 rfl rfl rfl hl.1 rfl (Nat.le_of_ble_eq_true rfl) dX2_part_61 ⟨(by dsimp only; omega), (by dsimp only; omega)⟩ (fun r12 hr12 => ?_)
        obtain rfl : r12 = pAcc t x := hr12
        refine lv_iconst (v := 2) hx hb dX2_part_64 (by decide) ?_
        refine lv_icmp_ge (tgt := 71) hx hb dX2_part_65 (by decide) (fun c13 => ?_) (fun c13 => ?_)
        · skip
          refine lv_aload_n hx hb dX2_part_71 rfl (lv_at hl 1 rfl) ?_
          refine va_get (D := D) (ci := 3) (v := .int (oCnt t)) (C := RX2) (T := TX2) (N := 10) hx hb hts iwX2 hown hK hP 0 rfl rfl 8 (by decide) (hts (.fieldLink RX2 50 "ObjectRows" "count" "I") (by decide +kernel)) (fun _ h9 => h9) rfl dX2_part_72 ?_
          refine lv_bipush (v := 100) hx hb dX2_part_75 (by decide) ?_
          refine lv_icmp_lt (tgt := 83) hx hb dX2_part_77 (by decide) (fun c14 => ?_) (fun c14 => ?_)
          · skip
            refine lv_iload hx hb dX2_part_83 (lv_at hl 0 rfl) ?_
            refine lv_bipush (v := 7) hx hb dX2_part_85 (by decide) ?_
            refine lv_icmp_ne (tgt := 100) hx hb dX2_part_87 (by decide) (fun c15 => absurd c9 c15) (fun _ => ?_)
            refine lv_aload_n hx hb dX2_part_90 rfl (lv_at hl 1 rfl) ?_
            refine lv_iload_n hx hb dX2_part_91 rfl (lv_at hl 2 rfl) ?_
            refine lv_iconst (v := 0) hx hb dX2_part_92 (by decide) ?_
            refine lv_iconst (v := 0) hx hb dX2_part_93 (by decide) ?_
            refine wcI (As := [.int x, .int 0, .int 0]) (rest := []) ⟨hx, hb, hml, hown, hts⟩ (c_X2_addPart l D Y ad t _ x 0 0 hok hgd) (cwV 3 hts gX2_part_X2_addPart rfl rfl rfl hdX2_addPart ⟨Nat.le_of_ble_eq_true rfl, Nat.le_of_ble_eq_true rfl⟩) hP hD hK hS hA 0 3 rfl rfl rfl hl.1 rfl (Nat.le_of_ble_eq_true rfl) dX2_part_94 ⟨by dsimp only; omega, by dsimp only; omega⟩ (frSelf hD hS hA) (fun r17 u16 H locs hu16 hP hD hS => ?_)
            obtain ⟨rfl, hu16⟩ := hu16
            have hP : va_P D vwCl (oW Y ad u16) H := hP
            have hD : va_D A (oW Y ad u16) := hD
            refine lv_goto (tgt := 107) hx hb dX2_part_97 (by decide) ?_
            refine W.widen (k := 10) (n := oAddC t) (by omega) (by omega) ?_
            exact weI (wf := fun u : OS => oW Y ad u) (u16) hx hb hr hlocks hP hD hS dX2_part_107 (Or.inr ⟨by first | (simp only [gPartE, b2, b7, c9, c13, c14, decide_true, decide_false, Bool.not_true, Bool.not_false, Bool.and_true, Bool.true_and, Bool.and_false, Bool.false_and, Bool.or_true, Bool.true_or, Bool.or_false, Bool.false_or, Bool.and_self, Bool.or_self, if_true, if_false, ite_true, ite_false, Bool.false_eq_true, reduceIte, not_true_eq_false, not_false_eq_true, and_true, true_and, and_false, false_and, or_true, true_or, or_false, false_or, and_self, or_self, eq_self, decide_eq_true_eq, Bool.true_eq_false, reduceCtorEq, ne_eq]; done) | (simp [gPartE, b2, b7, c9, c13, c14, Int32.not_lt.mpr c13, Int32.not_le.mpr c14]; done) | (simp only [gPartE, b2, b7, eq_true c9, c13, c14, decide_true, decide_false, Bool.not_true, Bool.not_false, Bool.and_true, Bool.true_and, Bool.and_false, Bool.false_and, Bool.or_true, Bool.true_or, Bool.or_false, Bool.false_or, Bool.and_self, Bool.or_self, if_true, if_false, ite_true, ite_false, Bool.false_eq_true, reduceIte, not_true_eq_false, not_false_eq_true, and_true, true_and, and_false, false_and, or_true, true_or, or_false, false_or, and_self, or_self, eq_self, decide_eq_true_eq, Bool.true_eq_false, reduceCtorEq, ne_eq]; done) | (simp [gPartE, b2, b7, eq_true c9, c13, c14, Int32.not_lt.mpr c13, Int32.not_le.mpr c14]; done), rfl, by rw [if_pos c9, if_pos c9]; exact hu16⟩)
          · skip
            refine lv_bipush (v := (-4)) hx hb dX2_part_80 (by decide) ?_
            refine W.widen (k := 10) (n := oAddC t) (by omega) (by omega) ?_
            exact weI (wf := fun u : OS => oW Y ad u) (t) hx hb hr hlocks hP hD hS dX2_part_82 (Or.inl ⟨by first | (simp only [gPartE, b2, b7, c9, c13, c14, decide_true, decide_false, Bool.not_true, Bool.not_false, Bool.and_true, Bool.true_and, Bool.and_false, Bool.false_and, Bool.or_true, Bool.true_or, Bool.or_false, Bool.false_or, Bool.and_self, Bool.or_self, if_true, if_false, ite_true, ite_false, Bool.false_eq_true, reduceIte, not_true_eq_false, not_false_eq_true, and_true, true_and, and_false, false_and, or_true, true_or, or_false, false_or, and_self, or_self, eq_self, decide_eq_true_eq, Bool.true_eq_false, reduceCtorEq, ne_eq]; done) | (simp [gPartE, b2, b7, c9, c13, c14, Int32.not_lt.mpr c13, Int32.not_lt.mp c14]; done) | (simp only [gPartE, b2, b7, eq_true c9, c13, c14, decide_true, decide_false, Bool.not_true, Bool.not_false, Bool.and_true, Bool.true_and, Bool.and_false, Bool.false_and, Bool.or_true, Bool.true_or, Bool.or_false, Bool.false_or, Bool.and_self, Bool.or_self, if_true, if_false, ite_true, ite_false, Bool.false_eq_true, reduceIte, not_true_eq_false, not_false_eq_true, and_true, true_and, and_false, false_and, or_true, true_or, or_false, false_or, and_self, or_self, eq_self, decide_eq_true_eq, Bool.true_eq_false, reduceCtorEq, ne_eq]; done) | (simp [gPartE, b2, b7, eq_true c9, c13, c14, Int32.not_lt.mpr c13, Int32.not_lt.mp c14]; done), by decide, rfl⟩)
        · skip
          refine lv_bipush (v := (-3)) hx hb dX2_part_68 (by decide) ?_
          refine W.widen (k := 10) (n := oAddC t) (by omega) (by omega) ?_
          exact weI (wf := fun u : OS => oW Y ad u) (t) hx hb hr hlocks hP hD hS dX2_part_70 (Or.inl ⟨by first | (simp only [gPartE, b2, b7, c9, c13, decide_true, decide_false, Bool.not_true, Bool.not_false, Bool.and_true, Bool.true_and, Bool.and_false, Bool.false_and, Bool.or_true, Bool.true_or, Bool.or_false, Bool.false_or, Bool.and_self, Bool.or_self, if_true, if_false, ite_true, ite_false, Bool.false_eq_true, reduceIte, not_true_eq_false, not_false_eq_true, and_true, true_and, and_false, false_and, or_true, true_or, or_false, false_or, and_self, or_self, eq_self, decide_eq_true_eq, Bool.true_eq_false, reduceCtorEq, ne_eq]; done) | (simp [gPartE, b2, b7, c9, c13, Int32.not_le.mp c13]; done) | (simp only [gPartE, b2, b7, eq_true c9, c13, decide_true, decide_false, Bool.not_true, Bool.not_false, Bool.and_true, Bool.true_and, Bool.and_false, Bool.false_and, Bool.or_true, Bool.true_or, Bool.or_false, Bool.false_or, Bool.and_self, Bool.or_self, if_true, if_false, ite_true, ite_false, Bool.false_eq_true, reduceIte, not_true_eq_false, not_false_eq_true, and_true, true_and, and_false, false_and, or_true, true_or, or_false, false_or, and_self, or_self, eq_self, decide_eq_true_eq, Bool.true_eq_false, reduceCtorEq, ne_eq]; done) | (simp [gPartE, b2, b7, eq_true c9, c13, Int32.not_le.mp c13]; done), by decide, rfl⟩)
      · skip
        refine lv_bipush (v := (-3)) hx hb dX2_part_35 (by decide) ?_
        refine W.widen (k := 10) (n := oAddC t) (by omega) (by omega) ?_
        exact weI (wf := fun u : OS => oW Y ad u) (t) hx hb hr hlocks hP hD hS dX2_part_37 (Or.inl ⟨by first | (simp only [gPartE, b2, b7, c9, decide_true, decide_false, Bool.not_true, Bool.not_false, Bool.and_true, Bool.true_and, Bool.and_false, Bool.false_and, Bool.or_true, Bool.true_or, Bool.or_false, Bool.false_or, Bool.and_self, Bool.or_self, if_true, if_false, ite_true, ite_false, Bool.false_eq_true, reduceIte, not_true_eq_false, not_false_eq_true, and_true, true_and, and_false, false_and, or_true, true_or, or_false, false_or, and_self, or_self, eq_self, decide_eq_true_eq, Bool.true_eq_false, reduceCtorEq, ne_eq]; done) | (simp [gPartE, b2, b7, c9]; done), by decide, rfl⟩)
    · replace hr6 : r6 = 1 := by rw [hr6, b7]; rfl
      subst hr6
      refine lv_if_ne (tgt := 38) hx hb dX2_part_25 (by decide) (fun _ => ?_) (fun c18 => absurd c18 (by decide))
      refine lv_iload hx hb dX2_part_38 (lv_at hl 0 rfl) ?_
      refine scI (As := [.int (kd t x)]) (rest := []) ⟨hx, hb, hml, hown, hts⟩ (c_X2_isView l (kd t x)) (va_cwS 1 hts gX2_part_X2_isView rfl rfl rfl hdX2_isView ⟨Nat.le_of_ble_eq_true rfl, Nat.le_of_ble_eq_true rfl⟩) rfl hl.1 rfl (Nat.le_of_ble_eq_true rfl) dX2_part_40 ⟨(by dsimp only; omega), (by dsimp only; omega)⟩ (fun r19 hr19 => ?_)
      replace hr19 : r19 = bI (pView (kd t x)) := hr19
      replace hr19 : r19 = 1 := by rw [hr19, b7]; rfl
      subst hr19
      refine lv_if_eq (tgt := 59) hx hb dX2_part_43 (by decide) (fun c20 => absurd c20 (by decide)) (fun _ => ?_)
      refine lv_aload_n hx hb dX2_part_46 rfl (lv_at hl 1 rfl) ?_
      refine lv_iload_n hx hb dX2_part_47 rfl (lv_at hl 2 rfl) ?_
      refine lv_iload_n hx hb dX2_part_48 rfl (lv_at hl 3 rfl) ?_
      refine lv_iload_n hx hb dX2_part_49 rfl (lv_at hl 4 rfl) ?_
      refine rcI (As := [.int x, .int f, .int n]) (rest := []) ⟨hx, hb, hml, hown, hts⟩ (c_X2_hasPart l D Y ad t x f n hok) (cwV 3 hts gX2_part_X2_hasPart rfl rfl rfl hdX2_hasPart ⟨Nat.le_of_ble_eq_true rfl, Nat.le_of_ble_eq_true rfl⟩) hP hK 0 3 rfl rfl rfl hl.1 rfl (Nat.le_of_ble_eq_true rfl) dX2_part_50 ⟨(by dsimp only; omega), (by dsimp only; omega)⟩ (fun r21 hr21 => ?_)
      replace hr21 : r21 = bI (pHasPart t x f n) := hr21
      cases b22 : pHasPart t x f n
      · replace hr21 : r21 = 0 := by rw [hr21, b22]; rfl
        subst hr21
        refine lv_if_ne (tgt := 59) hx hb dX2_part_53 (by decide) (fun c23 => absurd (by decide) c23) (fun _ => ?_)
        refine lv_bipush (v := (-2)) hx hb dX2_part_56 (by decide) ?_
        refine W.widen (k := 10) (n := oAddC t) (by omega) (by omega) ?_
        exact weI (wf := fun u : OS => oW Y ad u) (t) hx hb hr hlocks hP hD hS dX2_part_58 (Or.inl ⟨by first | (simp only [gPartE, b2, b7, b22, decide_true, decide_false, Bool.not_true, Bool.not_false, Bool.and_true, Bool.true_and, Bool.and_false, Bool.false_and, Bool.or_true, Bool.true_or, Bool.or_false, Bool.false_or, Bool.and_self, Bool.or_self, if_true, if_false, ite_true, ite_false, Bool.false_eq_true, reduceIte, not_true_eq_false, not_false_eq_true, and_true, true_and, and_false, false_and, or_true, true_or, or_false, false_or, and_self, or_self, eq_self, decide_eq_true_eq, Bool.true_eq_false, reduceCtorEq, ne_eq]; done) | (simp [gPartE, b2, b7, b22]; done), by decide, rfl⟩)
      · replace hr21 : r21 = 1 := by rw [hr21, b22]; rfl
        subst hr21
        refine lv_if_ne (tgt := 59) hx hb dX2_part_53 (by decide) (fun _ => ?_) (fun c24 => absurd c24 (by decide))
        refine lv_aload_n hx hb dX2_part_59 rfl (lv_at hl 1 rfl) ?_
        refine lv_iload_n hx hb dX2_part_60 rfl (lv_at hl 2 rfl) ?_
        refine rcI (As := [.int x]) (rest := []) ⟨hx, hb, hml, hown, hts⟩ (c_X2_accessOf l D Y ad t x hok) (cwV 1 hts gX2_part_X2_accessOf rfl rfl rfl hdX2_accessOf ⟨Nat.le_of_ble_eq_true rfl, Nat.le_of_ble_eq_true rfl⟩) hP hK 0 3 rfl rfl rfl hl.1 rfl (Nat.le_of_ble_eq_true rfl) dX2_part_61 ⟨(by dsimp only; omega), (by dsimp only; omega)⟩ (fun r25 hr25 => ?_)
        obtain rfl : r25 = pAcc t x := hr25
        refine lv_iconst (v := 2) hx hb dX2_part_64 (by decide) ?_
        refine lv_icmp_ge (tgt := 71) hx hb dX2_part_65 (by decide) (fun c26 => ?_) (fun c26 => ?_)
        · skip
          refine lv_aload_n hx hb dX2_part_71 rfl (lv_at hl 1 rfl) ?_
          refine va_get (D := D) (ci := 3) (v := .int (oCnt t)) (C := RX2) (T := TX2) (N := 10) hx hb hts iwX2 hown hK hP 0 rfl rfl 8 (by decide) (hts (.fieldLink RX2 50 "ObjectRows" "count" "I") (by decide +kernel)) (fun _ h9 => h9) rfl dX2_part_72 ?_
          refine lv_bipush (v := 100) hx hb dX2_part_75 (by decide) ?_
          refine lv_icmp_lt (tgt := 83) hx hb dX2_part_77 (by decide) (fun c27 => ?_) (fun c27 => ?_)
          · skip
            refine lv_iload hx hb dX2_part_83 (lv_at hl 0 rfl) ?_
            refine lv_bipush (v := 7) hx hb dX2_part_85 (by decide) ?_
            refine lv_icmp_ne (tgt := 100) hx hb dX2_part_87 (by decide) (fun c28 => ?_) (fun c28 => ?_)
            · skip
              refine lv_aload_n hx hb dX2_part_100 rfl (lv_at hl 1 rfl) ?_
              refine lv_iload_n hx hb dX2_part_101 rfl (lv_at hl 2 rfl) ?_
              refine lv_iload_n hx hb dX2_part_102 rfl (lv_at hl 3 rfl) ?_
              refine lv_iload_n hx hb dX2_part_103 rfl (lv_at hl 4 rfl) ?_
              refine wcI (As := [.int x, .int f, .int n]) (rest := []) ⟨hx, hb, hml, hown, hts⟩ (c_X2_addPart l D Y ad t _ x f n hok hgd) (cwV 3 hts gX2_part_X2_addPart rfl rfl rfl hdX2_addPart ⟨Nat.le_of_ble_eq_true rfl, Nat.le_of_ble_eq_true rfl⟩) hP hD hK hS hA 0 3 rfl rfl rfl hl.1 rfl (Nat.le_of_ble_eq_true rfl) dX2_part_104 ⟨by dsimp only; omega, by dsimp only; omega⟩ (frSelf hD hS hA) (fun r30 u29 H locs hu29 hP hD hS => ?_)
              obtain ⟨rfl, hu29⟩ := hu29
              have hP : va_P D vwCl (oW Y ad u29) H := hP
              have hD : va_D A (oW Y ad u29) := hD
              refine W.widen (k := 10) (n := oAddC t) (by omega) (by omega) ?_
              exact weI (wf := fun u : OS => oW Y ad u) (u29) hx hb hr hlocks hP hD hS dX2_part_107 (Or.inr ⟨by first | (simp only [gPartE, b2, b7, b22, c26, c27, c28, decide_true, decide_false, Bool.not_true, Bool.not_false, Bool.and_true, Bool.true_and, Bool.and_false, Bool.false_and, Bool.or_true, Bool.true_or, Bool.or_false, Bool.false_or, Bool.and_self, Bool.or_self, if_true, if_false, ite_true, ite_false, Bool.false_eq_true, reduceIte, not_true_eq_false, not_false_eq_true, and_true, true_and, and_false, false_and, or_true, true_or, or_false, false_or, and_self, or_self, eq_self, decide_eq_true_eq, Bool.true_eq_false, reduceCtorEq, ne_eq]; done) | (simp [gPartE, b2, b7, b22, c26, c27, c28, Int32.not_lt.mpr c26, Int32.not_le.mpr c27]; done), rfl, by rw [if_neg c28, if_neg c28]; exact hu29⟩)
            · skip
              refine lv_aload_n hx hb dX2_part_90 rfl (lv_at hl 1 rfl) ?_
              refine lv_iload_n hx hb dX2_part_91 rfl (lv_at hl 2 rfl) ?_
              refine lv_iconst (v := 0) hx hb dX2_part_92 (by decide) ?_
              refine lv_iconst (v := 0) hx hb dX2_part_93 (by decide) ?_
              refine wcI (As := [.int x, .int 0, .int 0]) (rest := []) ⟨hx, hb, hml, hown, hts⟩ (c_X2_addPart l D Y ad t _ x 0 0 hok hgd) (cwV 3 hts gX2_part_X2_addPart rfl rfl rfl hdX2_addPart ⟨Nat.le_of_ble_eq_true rfl, Nat.le_of_ble_eq_true rfl⟩) hP hD hK hS hA 0 3 rfl rfl rfl hl.1 rfl (Nat.le_of_ble_eq_true rfl) dX2_part_94 ⟨by dsimp only; omega, by dsimp only; omega⟩ (frSelf hD hS hA) (fun r32 u31 H locs hu31 hP hD hS => ?_)
              obtain ⟨rfl, hu31⟩ := hu31
              have hP : va_P D vwCl (oW Y ad u31) H := hP
              have hD : va_D A (oW Y ad u31) := hD
              refine lv_goto (tgt := 107) hx hb dX2_part_97 (by decide) ?_
              refine W.widen (k := 10) (n := oAddC t) (by omega) (by omega) ?_
              exact weI (wf := fun u : OS => oW Y ad u) (u31) hx hb hr hlocks hP hD hS dX2_part_107 (Or.inr ⟨by first | (simp only [gPartE, b2, b7, b22, c26, c27, c28, decide_true, decide_false, Bool.not_true, Bool.not_false, Bool.and_true, Bool.true_and, Bool.and_false, Bool.false_and, Bool.or_true, Bool.true_or, Bool.or_false, Bool.false_or, Bool.and_self, Bool.or_self, if_true, if_false, ite_true, ite_false, Bool.false_eq_true, reduceIte, not_true_eq_false, not_false_eq_true, and_true, true_and, and_false, false_and, or_true, true_or, or_false, false_or, and_self, or_self, eq_self, decide_eq_true_eq, Bool.true_eq_false, reduceCtorEq, ne_eq]; done) | (simp [gPartE, b2, b7, b22, c26, c27, c28, Int32.not_lt.mpr c26, Int32.not_le.mpr c27]; done) | (simp only [gPartE, b2, b7, b22, c26, c27, eq_true c28, decide_true, decide_false, Bool.not_true, Bool.not_false, Bool.and_true, Bool.true_and, Bool.and_false, Bool.false_and, Bool.or_true, Bool.true_or, Bool.or_false, Bool.false_or, Bool.and_self, Bool.or_self, if_true, if_false, ite_true, ite_false, Bool.false_eq_true, reduceIte, not_true_eq_false, not_false_eq_true, and_true, true_and, and_false, false_and, or_true, true_or, or_false, false_or, and_self, or_self, eq_self, decide_eq_true_eq, Bool.true_eq_false, reduceCtorEq, ne_eq]; done) | (simp [gPartE, b2, b7, b22, c26, c27, eq_true c28, Int32.not_lt.mpr c26, Int32.not_le.mpr c27]; done), rfl, by rw [if_pos c28, if_pos c28]; exact hu31⟩)
          · skip
            refine lv_bipush (v := (-4)) hx hb dX2_part_80 (by decide) ?_
            refine W.widen (k := 10) (n := oAddC t) (by omega) (by omega) ?_
            exact weI (wf := fun u : OS => oW Y ad u) (t) hx hb hr hlocks hP hD hS dX2_part_82 (Or.inl ⟨by first | (simp only [gPartE, b2, b7, b22, c26, c27, decide_true, decide_false, Bool.not_true, Bool.not_false, Bool.and_true, Bool.true_and, Bool.and_false, Bool.false_and, Bool.or_true, Bool.true_or, Bool.or_false, Bool.false_or, Bool.and_self, Bool.or_self, if_true, if_false, ite_true, ite_false, Bool.false_eq_true, reduceIte, not_true_eq_false, not_false_eq_true, and_true, true_and, and_false, false_and, or_true, true_or, or_false, false_or, and_self, or_self, eq_self, decide_eq_true_eq, Bool.true_eq_false, reduceCtorEq, ne_eq]; done) | (simp [gPartE, b2, b7, b22, c26, c27, Int32.not_lt.mpr c26, Int32.not_lt.mp c27]; done), by decide, rfl⟩)
        · skip
          refine lv_bipush (v := (-3)) hx hb dX2_part_68 (by decide) ?_
          refine W.widen (k := 10) (n := oAddC t) (by omega) (by omega) ?_
          exact weI (wf := fun u : OS => oW Y ad u) (t) hx hb hr hlocks hP hD hS dX2_part_70 (Or.inl ⟨by first | (simp only [gPartE, b2, b7, b22, c26, decide_true, decide_false, Bool.not_true, Bool.not_false, Bool.and_true, Bool.true_and, Bool.and_false, Bool.false_and, Bool.or_true, Bool.true_or, Bool.or_false, Bool.false_or, Bool.and_self, Bool.or_self, if_true, if_false, ite_true, ite_false, Bool.false_eq_true, reduceIte, not_true_eq_false, not_false_eq_true, and_true, true_and, and_false, false_and, or_true, true_or, or_false, false_or, and_self, or_self, eq_self, decide_eq_true_eq, Bool.true_eq_false, reduceCtorEq, ne_eq]; done) | (simp [gPartE, b2, b7, b22, c26, Int32.not_le.mp c26]; done), by decide, rfl⟩)
theorem hdX2_part : yX2_part.cls = RX2 ∧ yX2_part.cls ≠ "java/lang/invoke/MethodHandle" ∧ yX2_part.cls ≠ "java/lang/invoke/VarHandle" ∧ (parseMethodDescriptor yX2_part.desc).map (fun d => d.parameters.length) = some 3 := by decide +kernel
