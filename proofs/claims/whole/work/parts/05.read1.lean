set_option maxHeartbeats 4000000 in
set_option maxRecDepth 100000 in
theorem c_X1_at (l : Launch) (D : va_G) (Y : Nat → ClassId) (h : Nat) (r : RV) (i : Int32) (hok : rOK r) : Met l yX1_at wsX1_at ({ frames := 0, cells := 0, slots := 0, locals := 0 }) (rdPc D Y [.ref h, .int i] (rW Y h r)) (vp_Si (fun ans => ans = rd (rF r) i)) 0 0 (fun _ => False) := by
  refine rdOf (cc := cX1_at) (maxL := 2) (ret := (some .int)) (own := RX1) (by decide) rfl rfl (Nat.le_of_ble_eq_true rfl) ?_
  intro p e s m below meth c ls hx hb hr hts hown hml hlocks hP hK hl
  have iwX1 : ∀ w ∈ u_ws RX1 TX1 2, w ∈ wsX1_at := fun _ h => List.mem_cons_of_mem _ (List.mem_append_right _ h)
  have hl : lv_has ls 2 [(0, .ref h), (1, .int i)] := hl
  refine lv_iload_n hx hb dX1_at_0 rfl (lv_at hl 1 rfl) ?_
  refine lv_if_lt (tgt := 22) hx hb dX1_at_1 (by decide) (fun c1 => ?_) (fun c1 => ?_)
  · skip
    refine lv_iconst (v := 0) hx hb dX1_at_22 (by decide) ?_
    exact reI hx hb hr hlocks dX1_at_23 (by first | (simp [rd, c1]; done) | exact (rd_out hok c1).symm)
  · skip
    refine lv_iload_n hx hb dX1_at_4 rfl (lv_at hl 1 rfl) ?_
    refine lv_aload_n hx hb dX1_at_5 rfl (lv_at hl 0 rfl) ?_
    refine va_get (D := D) (ci := 2) (v := .ref (rA r)) (C := RX1) (T := TX1) (N := 2) hx hb hts iwX1 hown hK hP 0 rfl rfl 0 (by decide) (hts (.fieldLink RX1 9 "ObjectRows$Row" "cells" "[I") (by decide +kernel)) (fun _ h9 => h9) rfl dX1_at_6 ?_
    refine va_alen (v := nI (rN r)) hx hb hK hP 1 0 rfl rfl rfl dX1_at_9 ?_
    refine lv_icmp_ge (tgt := 22) hx hb dX1_at_10 (by decide) (fun c2 => ?_) (fun c2 => ?_)
    · skip
      refine lv_iconst (v := 0) hx hb dX1_at_22 (by decide) ?_
      exact reI hx hb hr hlocks dX1_at_23 (by first | (simp [rd, c1, c2]; done) | exact (rd_out hok c1 c2).symm)
    · skip
      refine lv_aload_n hx hb dX1_at_13 rfl (lv_at hl 0 rfl) ?_
      refine va_get (D := D) (ci := 2) (v := .ref (rA r)) (C := RX1) (T := TX1) (N := 2) hx hb hts iwX1 hown hK hP 0 rfl rfl 0 (by decide) (hts (.fieldLink RX1 9 "ObjectRows$Row" "cells" "[I") (by decide +kernel)) (fun _ h9 => h9) rfl dX1_at_14 ?_
      refine lv_iload_n hx hb dX1_at_17 rfl (lv_at hl 1 rfl) ?_
      refine va_iald hx hb hK hP 1 0 rfl rfl (inbR hok.1 c1 c2) dX1_at_18 ?_
      refine lv_goto (tgt := 23) hx hb dX1_at_19 (by decide) ?_
      exact reI hx hb hr hlocks dX1_at_23 (by first | (simp [rd, c1, c2]; done) | exact (rd_out hok c1 c2).symm)
theorem hdX1_at : yX1_at.cls = RX1 ∧ yX1_at.cls ≠ "java/lang/invoke/MethodHandle" ∧ yX1_at.cls ≠ "java/lang/invoke/VarHandle" ∧ (parseMethodDescriptor yX1_at.desc).map (fun d => d.parameters.length) = some 1 := by decide +kernel
set_option maxHeartbeats 4000000 in
set_option maxRecDepth 100000 in
theorem c_X1_size (l : Launch) (D : va_G) (Y : Nat → ClassId) (h : Nat) (r : RV)   : Met l yX1_size wsX1_size ({ frames := 0, cells := 0, slots := 0, locals := 0 }) (rdPc D Y [.ref h] (rW Y h r)) (vp_Si (fun ans => ans = nI (rZ r))) 0 0 (fun _ => False) := by
  refine rdOf (cc := cX1_size) (maxL := 1) (ret := (some .int)) (own := RX1) (by decide) rfl rfl (Nat.le_of_ble_eq_true rfl) ?_
  intro p e s m below meth c ls hx hb hr hts hown hml hlocks hP hK hl
  have iwX1 : ∀ w ∈ u_ws RX1 TX1 2, w ∈ wsX1_size := fun _ h => List.mem_cons_of_mem _ (List.mem_append_right _ h)
  have hl : lv_has ls 1 [(0, .ref h)] := hl
  refine lv_aload_n hx hb dX1_size_0 rfl (lv_at hl 0 rfl) ?_
  refine va_get (D := D) (ci := 2) (v := .int (nI (rZ r))) (C := RX1) (T := TX1) (N := 2) hx hb hts iwX1 hown hK hP 0 rfl rfl 1 (by decide) (hts (.fieldLink RX1 13 "ObjectRows$Row" "size" "I") (by decide +kernel)) (fun _ h9 => h9) rfl dX1_size_1 ?_
  exact reI hx hb hr hlocks dX1_size_4 (by rfl)
theorem hdX1_size : yX1_size.cls = RX1 ∧ yX1_size.cls ≠ "java/lang/invoke/MethodHandle" ∧ yX1_size.cls ≠ "java/lang/invoke/VarHandle" ∧ (parseMethodDescriptor yX1_size.desc).map (fun d => d.parameters.length) = some 0 := by decide +kernel
set_option maxHeartbeats 4000000 in
set_option maxRecDepth 100000 in
theorem c_X2_within (l : Launch) (v : Int32) (q : Int32) : Met l yX2_within wsX2_within ({ frames := 0, cells := 0, slots := 0, locals := 0 }) (stPc [.int v, .int q]) (vp_Si (fun ans => ans = bI (pWithin v q))) 0 0 (fun _ => False) := by
  refine stOf (cc := cX2_within) (maxL := 2) (ret := (some .boolean)) (own := RX2) (by decide) rfl rfl (Nat.le_of_ble_eq_true rfl) ?_
  intro p e s m below meth c ls hx hb hr hts hown hml hlocks hl
  have hl : lv_has ls 2 [(0, .int v), (1, .int q)] := hl
  refine lv_iload_n hx hb dX2_within_0 rfl (lv_at hl 0 rfl) ?_
  refine lv_if_lt (tgt := 13) hx hb dX2_within_1 (by decide) (fun c1 => ?_) (fun c1 => ?_)
  · skip
    refine lv_iconst (v := 0) hx hb dX2_within_13 (by decide) ?_
    exact reZ hx hb hr hlocks dX2_within_14 (by first | exact Or.inl rfl | exact Or.inr rfl | exact bI_01 _ | (rename_i h9; rw [h9]; exact bI_01 _) | (subst_vars; exact bI_01 _)) (by first | (simp only [pWithin, bI, c1, decide_true, decide_false, Bool.not_true, Bool.not_false, Bool.and_true, Bool.true_and, Bool.and_false, Bool.false_and, Bool.or_true, Bool.true_or, Bool.or_false, Bool.false_or, Bool.and_self, Bool.or_self, if_true, if_false, ite_true, ite_false, Bool.false_eq_true, reduceIte, not_true_eq_false, not_false_eq_true, and_true, true_and, and_false, false_and, or_true, true_or, or_false, false_or, and_self, or_self, eq_self, decide_eq_true_eq, Bool.true_eq_false, reduceCtorEq, ne_eq]; done) | (simp [pWithin, bI, c1, Int32.not_le.mpr c1]; done))
  · skip
    refine lv_iload_n hx hb dX2_within_4 rfl (lv_at hl 0 rfl) ?_
    refine lv_iload_n hx hb dX2_within_5 rfl (lv_at hl 1 rfl) ?_
    refine lv_icmp_gt (tgt := 13) hx hb dX2_within_6 (by decide) (fun c2 => ?_) (fun c2 => ?_)
    · skip
      refine lv_iconst (v := 0) hx hb dX2_within_13 (by decide) ?_
      exact reZ hx hb hr hlocks dX2_within_14 (by first | exact Or.inl rfl | exact Or.inr rfl | exact bI_01 _ | (rename_i h9; rw [h9]; exact bI_01 _) | (subst_vars; exact bI_01 _)) (by first | (simp only [pWithin, bI, c1, c2, decide_true, decide_false, Bool.not_true, Bool.not_false, Bool.and_true, Bool.true_and, Bool.and_false, Bool.false_and, Bool.or_true, Bool.true_or, Bool.or_false, Bool.false_or, Bool.and_self, Bool.or_self, if_true, if_false, ite_true, ite_false, Bool.false_eq_true, reduceIte, not_true_eq_false, not_false_eq_true, and_true, true_and, and_false, false_and, or_true, true_or, or_false, false_or, and_self, or_self, eq_self, decide_eq_true_eq, Bool.true_eq_false, reduceCtorEq, ne_eq]; done) | (simp [pWithin, bI, c1, c2, Int32.not_lt.mp c1, Int32.not_le.mpr c2]; done))
    · skip
      refine lv_iconst (v := 1) hx hb dX2_within_9 (by decide) ?_
      refine lv_goto (tgt := 14) hx hb dX2_within_10 (by decide) ?_
      exact reZ hx hb hr hlocks dX2_within_14 (by first | exact Or.inl rfl | exact Or.inr rfl | exact bI_01 _ | (rename_i h9; rw [h9]; exact bI_01 _) | (subst_vars; exact bI_01 _)) (by first | (simp only [pWithin, bI, c1, c2, decide_true, decide_false, Bool.not_true, Bool.not_false, Bool.and_true, Bool.true_and, Bool.and_false, Bool.false_and, Bool.or_true, Bool.true_or, Bool.or_false, Bool.false_or, Bool.and_self, Bool.or_self, if_true, if_false, ite_true, ite_false, Bool.false_eq_true, reduceIte, not_true_eq_false, not_false_eq_true, and_true, true_and, and_false, false_and, or_true, true_or, or_false, false_or, and_self, or_self, eq_self, decide_eq_true_eq, Bool.true_eq_false, reduceCtorEq, ne_eq]; done) | (simp [pWithin, bI, c1, c2, Int32.not_lt.mp c1, Int32.not_lt.mp c2]; done))
theorem hdX2_within : yX2_within.cls ≠ "java/lang/invoke/MethodHandle" ∧ yX2_within.cls ≠ "java/lang/invoke/VarHandle" ∧ (parseMethodDescriptor yX2_within.desc).map (fun d => d.parameters.length) = some 2 := by decide +kernel
set_option maxHeartbeats 4000000 in
set_option maxRecDepth 100000 in
theorem c_X2_isList (l : Launch) (k : Int32) : Met l yX2_isList wsX2_isList ({ frames := 0, cells := 0, slots := 0, locals := 0 }) (stPc [.int k]) (vp_Si (fun ans => ans = bI (pList k))) 0 0 (fun _ => False) := by
  refine stOf (cc := cX2_isList) (maxL := 1) (ret := (some .boolean)) (own := RX2) (by decide) rfl rfl (Nat.le_of_ble_eq_true rfl) ?_
  intro p e s m below meth c ls hx hb hr hts hown hml hlocks hl
  have hl : lv_has ls 1 [(0, .int k)] := hl
  refine lv_iload_n hx hb dX2_isList_0 rfl (lv_at hl 0 rfl) ?_
  refine lv_iconst (v := 5) hx hb dX2_isList_1 (by decide) ?_
  refine lv_icmp_eq (tgt := 11) hx hb dX2_isList_2 (by decide) (fun c1 => ?_) (fun c1 => ?_)
  · skip
    refine lv_iconst (v := 1) hx hb dX2_isList_11 (by decide) ?_
    refine lv_goto (tgt := 16) hx hb dX2_isList_12 (by decide) ?_
    exact reZ hx hb hr hlocks dX2_isList_16 (by first | exact Or.inl rfl | exact Or.inr rfl | exact bI_01 _ | (rename_i h9; rw [h9]; exact bI_01 _) | (subst_vars; exact bI_01 _)) (by first | (simp only [pList, bI, c1, decide_true, decide_false, Bool.not_true, Bool.not_false, Bool.and_true, Bool.true_and, Bool.and_false, Bool.false_and, Bool.or_true, Bool.true_or, Bool.or_false, Bool.false_or, Bool.and_self, Bool.or_self, if_true, if_false, ite_true, ite_false, Bool.false_eq_true, reduceIte, not_true_eq_false, not_false_eq_true, and_true, true_and, and_false, false_and, or_true, true_or, or_false, false_or, and_self, or_self, eq_self, decide_eq_true_eq, Bool.true_eq_false, reduceCtorEq, ne_eq]; done) | (simp [pList, bI, c1]; done) | (simp only [pList, bI, eq_true c1, decide_true, decide_false, Bool.not_true, Bool.not_false, Bool.and_true, Bool.true_and, Bool.and_false, Bool.false_and, Bool.or_true, Bool.true_or, Bool.or_false, Bool.false_or, Bool.and_self, Bool.or_self, if_true, if_false, ite_true, ite_false, Bool.false_eq_true, reduceIte, not_true_eq_false, not_false_eq_true, and_true, true_and, and_false, false_and, or_true, true_or, or_false, false_or, and_self, or_self, eq_self, decide_eq_true_eq, Bool.true_eq_false, reduceCtorEq, ne_eq]; done) | (simp [pList, bI, eq_true c1]; done))
  · skip
    refine lv_iload_n hx hb dX2_isList_5 rfl (lv_at hl 0 rfl) ?_
    refine lv_bipush (v := 6) hx hb dX2_isList_6 (by decide) ?_
    refine lv_icmp_ne (tgt := 15) hx hb dX2_isList_8 (by decide) (fun c2 => ?_) (fun c2 => ?_)
    · skip
      refine lv_iconst (v := 0) hx hb dX2_isList_15 (by decide) ?_
      exact reZ hx hb hr hlocks dX2_isList_16 (by first | exact Or.inl rfl | exact Or.inr rfl | exact bI_01 _ | (rename_i h9; rw [h9]; exact bI_01 _) | (subst_vars; exact bI_01 _)) (by first | (simp only [pList, bI, c1, c2, decide_true, decide_false, Bool.not_true, Bool.not_false, Bool.and_true, Bool.true_and, Bool.and_false, Bool.false_and, Bool.or_true, Bool.true_or, Bool.or_false, Bool.false_or, Bool.and_self, Bool.or_self, if_true, if_false, ite_true, ite_false, Bool.false_eq_true, reduceIte, not_true_eq_false, not_false_eq_true, and_true, true_and, and_false, false_and, or_true, true_or, or_false, false_or, and_self, or_self, eq_self, decide_eq_true_eq, Bool.true_eq_false, reduceCtorEq, ne_eq]; done) | (simp [pList, bI, c1, c2]; done))
    · skip
      refine lv_iconst (v := 1) hx hb dX2_isList_11 (by decide) ?_
      refine lv_goto (tgt := 16) hx hb dX2_isList_12 (by decide) ?_
      exact reZ hx hb hr hlocks dX2_isList_16 (by first | exact Or.inl rfl | exact Or.inr rfl | exact bI_01 _ | (rename_i h9; rw [h9]; exact bI_01 _) | (subst_vars; exact bI_01 _)) (by first | (simp only [pList, bI, c1, c2, decide_true, decide_false, Bool.not_true, Bool.not_false, Bool.and_true, Bool.true_and, Bool.and_false, Bool.false_and, Bool.or_true, Bool.true_or, Bool.or_false, Bool.false_or, Bool.and_self, Bool.or_self, if_true, if_false, ite_true, ite_false, Bool.false_eq_true, reduceIte, not_true_eq_false, not_false_eq_true, and_true, true_and, and_false, false_and, or_true, true_or, or_false, false_or, and_self, or_self, eq_self, decide_eq_true_eq, Bool.true_eq_false, reduceCtorEq, ne_eq]; done) | (simp [pList, bI, c1, c2]; done) | (simp only [pList, bI, c1, eq_true c2, decide_true, decide_false, Bool.not_true, Bool.not_false, Bool.and_true, Bool.true_and, Bool.and_false, Bool.false_and, Bool.or_true, Bool.true_or, Bool.or_false, Bool.false_or, Bool.and_self, Bool.or_self, if_true, if_false, ite_true, ite_false, Bool.false_eq_true, reduceIte, not_true_eq_false, not_false_eq_true, and_true, true_and, and_false, false_and, or_true, true_or, or_false, false_or, and_self, or_self, eq_self, decide_eq_true_eq, Bool.true_eq_false, reduceCtorEq, ne_eq]; done) | (simp [pList, bI, c1, eq_true c2]; done))
theorem hdX2_isList : yX2_isList.cls ≠ "java/lang/invoke/MethodHandle" ∧ yX2_isList.cls ≠ "java/lang/invoke/VarHandle" ∧ (parseMethodDescriptor yX2_isList.desc).map (fun d => d.parameters.length) = some 1 := by decide +kernel
set_option maxHeartbeats 4000000 in
set_option maxRecDepth 100000 in
theorem c_X2_isView (l : Launch) (k : Int32) : Met l yX2_isView wsX2_isView ({ frames := 1, cells := 0, slots := 0, locals := 20 }) (stPc [.int k]) (vp_Si (fun ans => ans = bI (pView k))) 0 0 (fun _ => False) := by
  refine stOf (cc := cX2_isView) (maxL := 1) (ret := (some .boolean)) (own := RX2) (by decide) rfl rfl (Nat.le_of_ble_eq_true rfl) ?_
  intro p e s m below meth c ls hx hb hr hts hown hml hlocks hl
  have hl : lv_has ls 1 [(0, .int k)] := hl
  refine lv_iload_n hx hb dX2_isView_0 rfl (lv_at hl 0 rfl) ?_
  refine lv_iconst (v := 4) hx hb dX2_isView_1 (by decide) ?_
  refine lv_icmp_eq (tgt := 12) hx hb dX2_isView_2 (by decide) (fun c1 => ?_) (fun c1 => ?_)
  · skip
    refine lv_iconst (v := 1) hx hb dX2_isView_12 (by decide) ?_
    refine lv_goto (tgt := 17) hx hb dX2_isView_13 (by decide) ?_
    exact reZ hx hb hr hlocks dX2_isView_17 (by first | exact Or.inl rfl | exact Or.inr rfl | exact bI_01 _ | (rename_i h9; rw [h9]; exact bI_01 _) | (subst_vars; exact bI_01 _)) (by first | (simp only [pView, bI, c1, decide_true, decide_false, Bool.not_true, Bool.not_false, Bool.and_true, Bool.true_and, Bool.and_false, Bool.false_and, Bool.or_true, Bool.true_or, Bool.or_false, Bool.false_or, Bool.and_self, Bool.or_self, if_true, if_false, ite_true, ite_false, Bool.false_eq_true, reduceIte, not_true_eq_false, not_false_eq_true, and_true, true_and, and_false, false_and, or_true, true_or, or_false, false_or, and_self, or_self, eq_self, decide_eq_true_eq, Bool.true_eq_false, reduceCtorEq, ne_eq]; done) | (simp [pView, bI, c1]; done) | (simp only [pView, bI, eq_true c1, decide_true, decide_false, Bool.not_true, Bool.not_false, Bool.and_true, Bool.true_and, Bool.and_false, Bool.false_and, Bool.or_true, Bool.true_or, Bool.or_false, Bool.false_or, Bool.and_self, Bool.or_self, if_true, if_false, ite_true, ite_false, Bool.false_eq_true, reduceIte, not_true_eq_false, not_false_eq_true, and_true, true_and, and_false, false_and, or_true, true_or, or_false, false_or, and_self, or_self, eq_self, decide_eq_true_eq, Bool.true_eq_false, reduceCtorEq, ne_eq]; done) | (simp [pView, bI, eq_true c1]; done))
  · skip
    refine lv_iload_n hx hb dX2_isView_5 rfl (lv_at hl 0 rfl) ?_
    refine scI (As := [.int k]) (rest := []) ⟨hx, hb, hml, hown, hts⟩ (c_X2_isList l k) (va_cwS 1 hts gX2_isView_X2_isList rfl rfl rfl hdX2_isList ⟨Nat.le_of_ble_eq_true rfl, Nat.le_of_ble_eq_true rfl⟩) rfl hl.1 rfl (Nat.le_of_ble_eq_true rfl) dX2_isView_6 ⟨(Nat.zero_le _), (Nat.zero_le _)⟩ (fun r2 hr2 => ?_)
    replace hr2 : r2 = bI (pList k) := hr2
    cases b3 : pList k
    · replace hr2 : r2 = 0 := by rw [hr2, b3]; rfl
      subst hr2
      refine lv_if_eq (tgt := 16) hx hb dX2_isView_9 (by decide) (fun _ => ?_) (fun c4 => absurd (by decide) c4)
      refine lv_iconst (v := 0) hx hb dX2_isView_16 (by decide) ?_
      exact reZ hx hb hr hlocks dX2_isView_17 (by first | exact Or.inl rfl | exact Or.inr rfl | exact bI_01 _ | (rename_i h9; rw [h9]; exact bI_01 _) | (subst_vars; exact bI_01 _)) (by first | (simp only [pView, bI, c1, b3, decide_true, decide_false, Bool.not_true, Bool.not_false, Bool.and_true, Bool.true_and, Bool.and_false, Bool.false_and, Bool.or_true, Bool.true_or, Bool.or_false, Bool.false_or, Bool.and_self, Bool.or_self, if_true, if_false, ite_true, ite_false, Bool.false_eq_true, reduceIte, not_true_eq_false, not_false_eq_true, and_true, true_and, and_false, false_and, or_true, true_or, or_false, false_or, and_self, or_self, eq_self, decide_eq_true_eq, Bool.true_eq_false, reduceCtorEq, ne_eq]; done) | (simp [pView, bI, c1, b3]; done))
    · replace hr2 : r2 = 1 := by rw [hr2, b3]; rfl
      subst hr2
      refine lv_if_eq (tgt := 16) hx hb dX2_isView_9 (by decide) (fun c5 => absurd c5 (by decide)) (fun _ => ?_)
      refine lv_iconst (v := 1) hx hb dX2_isView_12 (by decide) ?_
      refine lv_goto (tgt := 17) hx hb dX2_isView_13 (by decide) ?_
      exact reZ hx hb hr hlocks dX2_isView_17 (by first | exact Or.inl rfl | exact Or.inr rfl | exact bI_01 _ | (rename_i h9; rw [h9]; exact bI_01 _) | (subst_vars; exact bI_01 _)) (by first | (simp only [pView, bI, c1, b3, decide_true, decide_false, Bool.not_true, Bool.not_false, Bool.and_true, Bool.true_and, Bool.and_false, Bool.false_and, Bool.or_true, Bool.true_or, Bool.or_false, Bool.false_or, Bool.and_self, Bool.or_self, if_true, if_false, ite_true, ite_false, Bool.false_eq_true, reduceIte, not_true_eq_false, not_false_eq_true, and_true, true_and, and_false, false_and, or_true, true_or, or_false, false_or, and_self, or_self, eq_self, decide_eq_true_eq, Bool.true_eq_false, reduceCtorEq, ne_eq]; done) | (simp [pView, bI, c1, b3]; done))
theorem hdX2_isView : yX2_isView.cls ≠ "java/lang/invoke/MethodHandle" ∧ yX2_isView.cls ≠ "java/lang/invoke/VarHandle" ∧ (parseMethodDescriptor yX2_isView.desc).map (fun d => d.parameters.length) = some 1 := by decide +kernel
set_option maxHeartbeats 4000000 in
set_option maxRecDepth 100000 in
theorem c_X2_hasNumber (l : Launch) (k : Int32) : Met l yX2_hasNumber wsX2_hasNumber ({ frames := 0, cells := 0, slots := 0, locals := 0 }) (stPc [.int k]) (vp_Si (fun ans => ans = bI (pHasNum k))) 0 0 (fun _ => False) := by
  refine stOf (cc := cX2_hasNumber) (maxL := 1) (ret := (some .boolean)) (own := RX2) (by decide) rfl rfl (Nat.le_of_ble_eq_true rfl) ?_
  intro p e s m below meth c ls hx hb hr hts hown hml hlocks hl
  have hl : lv_has ls 1 [(0, .int k)] := hl
  refine lv_iload_n hx hb dX2_hasNumber_0 rfl (lv_at hl 0 rfl) ?_
  refine lv_iconst (v := 1) hx hb dX2_hasNumber_1 (by decide) ?_
  refine lv_icmp_eq (tgt := 27) hx hb dX2_hasNumber_2 (by decide) (fun c1 => ?_) (fun c1 => ?_)
  · skip
    refine lv_iconst (v := 1) hx hb dX2_hasNumber_27 (by decide) ?_
    refine lv_goto (tgt := 32) hx hb dX2_hasNumber_28 (by decide) ?_
    exact reZ hx hb hr hlocks dX2_hasNumber_32 (by first | exact Or.inl rfl | exact Or.inr rfl | exact bI_01 _ | (rename_i h9; rw [h9]; exact bI_01 _) | (subst_vars; exact bI_01 _)) (by first | (simp only [pHasNum, bI, c1, decide_true, decide_false, Bool.not_true, Bool.not_false, Bool.and_true, Bool.true_and, Bool.and_false, Bool.false_and, Bool.or_true, Bool.true_or, Bool.or_false, Bool.false_or, Bool.and_self, Bool.or_self, if_true, if_false, ite_true, ite_false, Bool.false_eq_true, reduceIte, not_true_eq_false, not_false_eq_true, and_true, true_and, and_false, false_and, or_true, true_or, or_false, false_or, and_self, or_self, eq_self, decide_eq_true_eq, Bool.true_eq_false, reduceCtorEq, ne_eq]; done) | (simp [pHasNum, bI, c1]; done) | (simp only [pHasNum, bI, eq_true c1, decide_true, decide_false, Bool.not_true, Bool.not_false, Bool.and_true, Bool.true_and, Bool.and_false, Bool.false_and, Bool.or_true, Bool.true_or, Bool.or_false, Bool.false_or, Bool.and_self, Bool.or_self, if_true, if_false, ite_true, ite_false, Bool.false_eq_true, reduceIte, not_true_eq_false, not_false_eq_true, and_true, true_and, and_false, false_and, or_true, true_or, or_false, false_or, and_self, or_self, eq_self, decide_eq_true_eq, Bool.true_eq_false, reduceCtorEq, ne_eq]; done) | (simp [pHasNum, bI, eq_true c1]; done))
  · skip
    refine lv_iload_n hx hb dX2_hasNumber_5 rfl (lv_at hl 0 rfl) ?_
    refine lv_iconst (v := 2) hx hb dX2_hasNumber_6 (by decide) ?_
    refine lv_icmp_eq (tgt := 27) hx hb dX2_hasNumber_7 (by decide) (fun c2 => ?_) (fun c2 => ?_)
    · skip
      refine lv_iconst (v := 1) hx hb dX2_hasNumber_27 (by decide) ?_
      refine lv_goto (tgt := 32) hx hb dX2_hasNumber_28 (by decide) ?_
      exact reZ hx hb hr hlocks dX2_hasNumber_32 (by first | exact Or.inl rfl | exact Or.inr rfl | exact bI_01 _ | (rename_i h9; rw [h9]; exact bI_01 _) | (subst_vars; exact bI_01 _)) (by first | (simp only [pHasNum, bI, c1, c2, decide_true, decide_false, Bool.not_true, Bool.not_false, Bool.and_true, Bool.true_and, Bool.and_false, Bool.false_and, Bool.or_true, Bool.true_or, Bool.or_false, Bool.false_or, Bool.and_self, Bool.or_self, if_true, if_false, ite_true, ite_false, Bool.false_eq_true, reduceIte, not_true_eq_false, not_false_eq_true, and_true, true_and, and_false, false_and, or_true, true_or, or_false, false_or, and_self, or_self, eq_self, decide_eq_true_eq, Bool.true_eq_false, reduceCtorEq, ne_eq]; done) | (simp [pHasNum, bI, c1, c2]; done) | (simp only [pHasNum, bI, c1, eq_true c2, decide_true, decide_false, Bool.not_true, Bool.not_false, Bool.and_true, Bool.true_and, Bool.and_false, Bool.false_and, Bool.or_true, Bool.true_or, Bool.or_false, Bool.false_or, Bool.and_self, Bool.or_self, if_true, if_false, ite_true, ite_false, Bool.false_eq_true, reduceIte, not_true_eq_false, not_false_eq_true, and_true, true_and, and_false, false_and, or_true, true_or, or_false, false_or, and_self, or_self, eq_self, decide_eq_true_eq, Bool.true_eq_false, reduceCtorEq, ne_eq]; done) | (simp [pHasNum, bI, c1, eq_true c2]; done))
    · skip
      refine lv_iload_n hx hb dX2_hasNumber_10 rfl (lv_at hl 0 rfl) ?_
      refine lv_iconst (v := 3) hx hb dX2_hasNumber_11 (by decide) ?_
      refine lv_icmp_eq (tgt := 27) hx hb dX2_hasNumber_12 (by decide) (fun c3 => ?_) (fun c3 => ?_)
      · skip
        refine lv_iconst (v := 1) hx hb dX2_hasNumber_27 (by decide) ?_
        refine lv_goto (tgt := 32) hx hb dX2_hasNumber_28 (by decide) ?_
        exact reZ hx hb hr hlocks dX2_hasNumber_32 (by first | exact Or.inl rfl | exact Or.inr rfl | exact bI_01 _ | (rename_i h9; rw [h9]; exact bI_01 _) | (subst_vars; exact bI_01 _)) (by first | (simp only [pHasNum, bI, c1, c2, c3, decide_true, decide_false, Bool.not_true, Bool.not_false, Bool.and_true, Bool.true_and, Bool.and_false, Bool.false_and, Bool.or_true, Bool.true_or, Bool.or_false, Bool.false_or, Bool.and_self, Bool.or_self, if_true, if_false, ite_true, ite_false, Bool.false_eq_true, reduceIte, not_true_eq_false, not_false_eq_true, and_true, true_and, and_false, false_and, or_true, true_or, or_false, false_or, and_self, or_self, eq_self, decide_eq_true_eq, Bool.true_eq_false, reduceCtorEq, ne_eq]; done) | (simp [pHasNum, bI, c1, c2, c3]; done) | (simp only [pHasNum, bI, c1, c2, eq_true c3, decide_true, decide_false, Bool.not_true, Bool.not_false, Bool.and_true, Bool.true_and, Bool.and_false, Bool.false_and, Bool.or_true, Bool.true_or, Bool.or_false, Bool.false_or, Bool.and_self, Bool.or_self, if_true, if_false, ite_true, ite_false, Bool.false_eq_true, reduceIte, not_true_eq_false, not_false_eq_true, and_true, true_and, and_false, false_and, or_true, true_or, or_false, false_or, and_self, or_self, eq_self, decide_eq_true_eq, Bool.true_eq_false, reduceCtorEq, ne_eq]; done) | (simp [pHasNum, bI, c1, c2, eq_true c3]; done))
      · skip
        refine lv_iload_n hx hb dX2_hasNumber_15 rfl (lv_at hl 0 rfl) ?_
        refine lv_bipush (v := 9) hx hb dX2_hasNumber_16 (by decide) ?_
        refine lv_icmp_eq (tgt := 27) hx hb dX2_hasNumber_18 (by decide) (fun c4 => ?_) (fun c4 => ?_)
        · skip
          refine lv_iconst (v := 1) hx hb dX2_hasNumber_27 (by decide) ?_
          refine lv_goto (tgt := 32) hx hb dX2_hasNumber_28 (by decide) ?_
          exact reZ hx hb hr hlocks dX2_hasNumber_32 (by first | exact Or.inl rfl | exact Or.inr rfl | exact bI_01 _ | (rename_i h9; rw [h9]; exact bI_01 _) | (subst_vars; exact bI_01 _)) (by first | (simp only [pHasNum, bI, c1, c2, c3, c4, decide_true, decide_false, Bool.not_true, Bool.not_false, Bool.and_true, Bool.true_and, Bool.and_false, Bool.false_and, Bool.or_true, Bool.true_or, Bool.or_false, Bool.false_or, Bool.and_self, Bool.or_self, if_true, if_false, ite_true, ite_false, Bool.false_eq_true, reduceIte, not_true_eq_false, not_false_eq_true, and_true, true_and, and_false, false_and, or_true, true_or, or_false, false_or, and_self, or_self, eq_self, decide_eq_true_eq, Bool.true_eq_false, reduceCtorEq, ne_eq]; done) | (simp [pHasNum, bI, c1, c2, c3, c4]; done) | (simp only [pHasNum, bI, c1, c2, c3, eq_true c4, decide_true, decide_false, Bool.not_true, Bool.not_false, Bool.and_true, Bool.true_and, Bool.and_false, Bool.false_and, Bool.or_true, Bool.true_or, Bool.or_false, Bool.false_or, Bool.and_self, Bool.or_self, if_true, if_false, ite_true, ite_false, Bool.false_eq_true, reduceIte, not_true_eq_false, not_false_eq_true, and_true, true_and, and_false, false_and, or_true, true_or, or_false, false_or, and_self, or_self, eq_self, decide_eq_true_eq, Bool.true_eq_false, reduceCtorEq, ne_eq]; done) | (simp [pHasNum, bI, c1, c2, c3, eq_true c4]; done))
        · skip
          refine lv_iload_n hx hb dX2_hasNumber_21 rfl (lv_at hl 0 rfl) ?_
          refine lv_bipush (v := 10) hx hb dX2_hasNumber_22 (by decide) ?_
          refine lv_icmp_ne (tgt := 31) hx hb dX2_hasNumber_24 (by decide) (fun c5 => ?_) (fun c5 => ?_)
          · skip
            refine lv_iconst (v := 0) hx hb dX2_hasNumber_31 (by decide) ?_
            exact reZ hx hb hr hlocks dX2_hasNumber_32 (by first | exact Or.inl rfl | exact Or.inr rfl | exact bI_01 _ | (rename_i h9; rw [h9]; exact bI_01 _) | (subst_vars; exact bI_01 _)) (by first | (simp only [pHasNum, bI, c1, c2, c3, c4, c5, decide_true, decide_false, Bool.not_true, Bool.not_false, Bool.and_true, Bool.true_and, Bool.and_false, Bool.false_and, Bool.or_true, Bool.true_or, Bool.or_false, Bool.false_or, Bool.and_self, Bool.or_self, if_true, if_false, ite_true, ite_false, Bool.false_eq_true, reduceIte, not_true_eq_false, not_false_eq_true, and_true, true_and, and_false, false_and, or_true, true_or, or_false, false_or, and_self, or_self, eq_self, decide_eq_true_eq, Bool.true_eq_false, reduceCtorEq, ne_eq]; done) | (simp [pHasNum, bI, c1, c2, c3, c4, c5]; done))
          · skip
            refine lv_iconst (v := 1) hx hb dX2_hasNumber_27 (by decide) ?_
            refine lv_goto (tgt := 32) hx hb dX2_hasNumber_28 (by decide) ?_
            exact reZ hx hb hr hlocks dX2_hasNumber_32 (by first | exact Or.inl rfl | exact Or.inr rfl | exact bI_01 _ | (rename_i h9; rw [h9]; exact bI_01 _) | (subst_vars; exact bI_01 _)) (by first | (simp only [pHasNum, bI, c1, c2, c3, c4, c5, decide_true, decide_false, Bool.not_true, Bool.not_false, Bool.and_true, Bool.true_and, Bool.and_false, Bool.false_and, Bool.or_true, Bool.true_or, Bool.or_false, Bool.false_or, Bool.and_self, Bool.or_self, if_true, if_false, ite_true, ite_false, Bool.false_eq_true, reduceIte, not_true_eq_false, not_false_eq_true, and_true, true_and, and_false, false_and, or_true, true_or, or_false, false_or, and_self, or_self, eq_self, decide_eq_true_eq, Bool.true_eq_false, reduceCtorEq, ne_eq]; done) | (simp [pHasNum, bI, c1, c2, c3, c4, c5]; done) | (simp only [pHasNum, bI, c1, c2, c3, c4, eq_true c5, decide_true, decide_false, Bool.not_true, Bool.not_false, Bool.and_true, Bool.true_and, Bool.and_false, Bool.false_and, Bool.or_true, Bool.true_or, Bool.or_false, Bool.false_or, Bool.and_self, Bool.or_self, if_true, if_false, ite_true, ite_false, Bool.false_eq_true, reduceIte, not_true_eq_false, not_false_eq_true, and_true, true_and, and_false, false_and, or_true, true_or, or_false, false_or, and_self, or_self, eq_self, decide_eq_true_eq, Bool.true_eq_false, reduceCtorEq, ne_eq]; done) | (simp [pHasNum, bI, c1, c2, c3, c4, eq_true c5]; done))
theorem hdX2_hasNumber : yX2_hasNumber.cls ≠ "java/lang/invoke/MethodHandle" ∧ yX2_hasNumber.cls ≠ "java/lang/invoke/VarHandle" ∧ (parseMethodDescriptor yX2_hasNumber.desc).map (fun d => d.parameters.length) = some 1 := by decide +kernel
set_option maxHeartbeats 4000000 in
set_option maxRecDepth 100000 in
theorem c_X2_firstAccess (l : Launch) (k : Int32) : Met l yX2_firstAccess wsX2_firstAccess ({ frames := 0, cells := 0, slots := 0, locals := 0 }) (stPc [.int k]) (vp_Si (fun ans => ans = pFirst k)) 0 0 (fun _ => False) := by
  refine stOf (cc := cX2_firstAccess) (maxL := 1) (ret := (some .int)) (own := RX2) (by decide) rfl rfl (Nat.le_of_ble_eq_true rfl) ?_
  intro p e s m below meth c ls hx hb hr hts hown hml hlocks hl
  have hl : lv_has ls 1 [(0, .int k)] := hl
  refine lv_iload_n hx hb dX2_firstAccess_0 rfl (lv_at hl 0 rfl) ?_
  by_cases c1 : k = 4 ∨ k = 5 ∨ k = 7 ∨ k = 9
  · refine lv_tableIn (off := 39) (tgt := 40) hx hb dX2_firstAccess_1 (by rcases c1 with c1 | c1 | c1 | c1 <;> rw [c1] <;> decide) (by rcases c1 with c1 | c1 | c1 | c1 <;> rw [c1] <;> decide) (by rcases c1 with c1 | c1 | c1 | c1 <;> rw [c1] <;> decide) (by decide) ?_
    refine lv_iconst (v := 3) hx hb dX2_firstAccess_40 (by decide) ?_
    exact reI hx hb hr hlocks dX2_firstAccess_41 (by first | (simp only [pFirst, c1, decide_true, decide_false, Bool.not_true, Bool.not_false, Bool.and_true, Bool.true_and, Bool.and_false, Bool.false_and, Bool.or_true, Bool.true_or, Bool.or_false, Bool.false_or, Bool.and_self, Bool.or_self, if_true, if_false, ite_true, ite_false, Bool.false_eq_true, reduceIte, not_true_eq_false, not_false_eq_true, and_true, true_and, and_false, false_and, or_true, true_or, or_false, false_or, and_self, or_self, eq_self, decide_eq_true_eq, Bool.true_eq_false, reduceCtorEq, ne_eq]; done) | (simp [pFirst, c1]; done))
  by_cases c2 : k = 6
  · refine lv_tableIn (off := 41) (tgt := 42) hx hb dX2_firstAccess_1 (by rw [c2]; decide) (by rw [c2]; decide) (by rw [c2]; decide) (by decide) ?_
    refine lv_iconst (v := 2) hx hb dX2_firstAccess_42 (by decide) ?_
    exact reI hx hb hr hlocks dX2_firstAccess_43 (by first | (simp only [pFirst, c1, c2, decide_true, decide_false, Bool.not_true, Bool.not_false, Bool.and_true, Bool.true_and, Bool.and_false, Bool.false_and, Bool.or_true, Bool.true_or, Bool.or_false, Bool.false_or, Bool.and_self, Bool.or_self, if_true, if_false, ite_true, ite_false, Bool.false_eq_true, reduceIte, not_true_eq_false, not_false_eq_true, and_true, true_and, and_false, false_and, or_true, true_or, or_false, false_or, and_self, or_self, eq_self, decide_eq_true_eq, Bool.true_eq_false, reduceCtorEq, ne_eq]; done) | (simp [pFirst, c1, c2]; done))
  refine lv_tableD (tgt := 44) hx hb dX2_firstAccess_1 (tblD (ks := [4, 5, 7, 9, 6]) (by decide) (List.forall_mem_cons.mpr ⟨neI (fun h9 => c1 (Or.inl h9)) (by decide), (List.forall_mem_cons.mpr ⟨neI (fun h9 => c1 (Or.inr (Or.inl h9))) (by decide), (List.forall_mem_cons.mpr ⟨neI (fun h9 => c1 (Or.inr (Or.inr (Or.inl h9)))) (by decide), (List.forall_mem_cons.mpr ⟨neI (fun h9 => c1 (Or.inr (Or.inr (Or.inr (h9))))) (by decide), (List.forall_mem_cons.mpr ⟨neI c2 (by decide), (fun _ h => absurd h List.not_mem_nil)⟩)⟩)⟩)⟩)⟩) (by decide)) (by decide) ?_
  refine lv_iconst (v := 0) hx hb dX2_firstAccess_44 (by decide) ?_
  exact reI hx hb hr hlocks dX2_firstAccess_45 (by first | (simp only [pFirst, c1, c2, decide_true, decide_false, Bool.not_true, Bool.not_false, Bool.and_true, Bool.true_and, Bool.and_false, Bool.false_and, Bool.or_true, Bool.true_or, Bool.or_false, Bool.false_or, Bool.and_self, Bool.or_self, if_true, if_false, ite_true, ite_false, Bool.false_eq_true, reduceIte, not_true_eq_false, not_false_eq_true, and_true, true_and, and_false, false_and, or_true, true_or, or_false, false_or, and_self, or_self, eq_self, decide_eq_true_eq, Bool.true_eq_false, reduceCtorEq, ne_eq]; done) | (simp [pFirst, c1, c2]; done))
theorem hdX2_firstAccess : yX2_firstAccess.cls ≠ "java/lang/invoke/MethodHandle" ∧ yX2_firstAccess.cls ≠ "java/lang/invoke/VarHandle" ∧ (parseMethodDescriptor yX2_firstAccess.desc).map (fun d => d.parameters.length) = some 1 := by decide +kernel
set_option maxHeartbeats 4000000 in
set_option maxRecDepth 100000 in
theorem c_X2_placeStorage (l : Launch) (k : Int32) : Met l yX2_placeStorage wsX2_placeStorage ({ frames := 0, cells := 0, slots := 0, locals := 0 }) (stPc [.int k]) (vp_Si (fun ans => ans = pPlace k)) 0 0 (fun _ => False) := by
  refine stOf (cc := cX2_placeStorage) (maxL := 1) (ret := (some .int)) (own := RX2) (by decide) rfl rfl (Nat.le_of_ble_eq_true rfl) ?_
  intro p e s m below meth c ls hx hb hr hts hown hml hlocks hl
  have hl : lv_has ls 1 [(0, .int k)] := hl
  refine lv_iload_n hx hb dX2_placeStorage_0 rfl (lv_at hl 0 rfl) ?_
  by_cases c1 : k = 4
  · refine lv_tableIn (off := 31) (tgt := 32) hx hb dX2_placeStorage_1 (by rw [c1]; decide) (by rw [c1]; decide) (by rw [c1]; decide) (by decide) ?_
    refine lv_iconst (v := 1) hx hb dX2_placeStorage_32 (by decide) ?_
    exact reI hx hb hr hlocks dX2_placeStorage_33 (by first | (simp only [pPlace, c1, decide_true, decide_false, Bool.not_true, Bool.not_false, Bool.and_true, Bool.true_and, Bool.and_false, Bool.false_and, Bool.or_true, Bool.true_or, Bool.or_false, Bool.false_or, Bool.and_self, Bool.or_self, if_true, if_false, ite_true, ite_false, Bool.false_eq_true, reduceIte, not_true_eq_false, not_false_eq_true, and_true, true_and, and_false, false_and, or_true, true_or, or_false, false_or, and_self, or_self, eq_self, decide_eq_true_eq, Bool.true_eq_false, reduceCtorEq, ne_eq]; done) | (simp [pPlace, c1]; done))
  by_cases c2 : k = 5
  · refine lv_tableIn (off := 33) (tgt := 34) hx hb dX2_placeStorage_1 (by rw [c2]; decide) (by rw [c2]; decide) (by rw [c2]; decide) (by decide) ?_
    refine lv_bipush (v := 8) hx hb dX2_placeStorage_34 (by decide) ?_
    exact reI hx hb hr hlocks dX2_placeStorage_36 (by first | (simp only [pPlace, c1, c2, decide_true, decide_false, Bool.not_true, Bool.not_false, Bool.and_true, Bool.true_and, Bool.and_false, Bool.false_and, Bool.or_true, Bool.true_or, Bool.or_false, Bool.false_or, Bool.and_self, Bool.or_self, if_true, if_false, ite_true, ite_false, Bool.false_eq_true, reduceIte, not_true_eq_false, not_false_eq_true, and_true, true_and, and_false, false_and, or_true, true_or, or_false, false_or, and_self, or_self, eq_self, decide_eq_true_eq, Bool.true_eq_false, reduceCtorEq, ne_eq]; done) | (simp [pPlace, c1, c2]; done))
  by_cases c3 : k = 6
  · refine lv_tableIn (off := 36) (tgt := 37) hx hb dX2_placeStorage_1 (by rw [c3]; decide) (by rw [c3]; decide) (by rw [c3]; decide) (by decide) ?_
    refine lv_iconst (v := 4) hx hb dX2_placeStorage_37 (by decide) ?_
    exact reI hx hb hr hlocks dX2_placeStorage_38 (by first | (simp only [pPlace, c1, c2, c3, decide_true, decide_false, Bool.not_true, Bool.not_false, Bool.and_true, Bool.true_and, Bool.and_false, Bool.false_and, Bool.or_true, Bool.true_or, Bool.or_false, Bool.false_or, Bool.and_self, Bool.or_self, if_true, if_false, ite_true, ite_false, Bool.false_eq_true, reduceIte, not_true_eq_false, not_false_eq_true, and_true, true_and, and_false, false_and, or_true, true_or, or_false, false_or, and_self, or_self, eq_self, decide_eq_true_eq, Bool.true_eq_false, reduceCtorEq, ne_eq]; done) | (simp [pPlace, c1, c2, c3]; done))
  by_cases c4 : k = 7
  · refine lv_tableIn (off := 38) (tgt := 39) hx hb dX2_placeStorage_1 (by rw [c4]; decide) (by rw [c4]; decide) (by rw [c4]; decide) (by decide) ?_
    refine lv_bipush (v := 16) hx hb dX2_placeStorage_39 (by decide) ?_
    exact reI hx hb hr hlocks dX2_placeStorage_41 (by first | (simp only [pPlace, c1, c2, c3, c4, decide_true, decide_false, Bool.not_true, Bool.not_false, Bool.and_true, Bool.true_and, Bool.and_false, Bool.false_and, Bool.or_true, Bool.true_or, Bool.or_false, Bool.false_or, Bool.and_self, Bool.or_self, if_true, if_false, ite_true, ite_false, Bool.false_eq_true, reduceIte, not_true_eq_false, not_false_eq_true, and_true, true_and, and_false, false_and, or_true, true_or, or_false, false_or, and_self, or_self, eq_self, decide_eq_true_eq, Bool.true_eq_false, reduceCtorEq, ne_eq]; done) | (simp [pPlace, c1, c2, c3, c4]; done))
  refine lv_tableD (tgt := 42) hx hb dX2_placeStorage_1 (tblD (ks := [4, 5, 6, 7]) (by decide) (List.forall_mem_cons.mpr ⟨neI c1 (by decide), (List.forall_mem_cons.mpr ⟨neI c2 (by decide), (List.forall_mem_cons.mpr ⟨neI c3 (by decide), (List.forall_mem_cons.mpr ⟨neI c4 (by decide), (fun _ h => absurd h List.not_mem_nil)⟩)⟩)⟩)⟩) (by decide)) (by decide) ?_
  refine lv_iconst (v := 0) hx hb dX2_placeStorage_42 (by decide) ?_
  exact reI hx hb hr hlocks dX2_placeStorage_43 (by first | (simp only [pPlace, c1, c2, c3, c4, decide_true, decide_false, Bool.not_true, Bool.not_false, Bool.and_true, Bool.true_and, Bool.and_false, Bool.false_and, Bool.or_true, Bool.true_or, Bool.or_false, Bool.false_or, Bool.and_self, Bool.or_self, if_true, if_false, ite_true, ite_false, Bool.false_eq_true, reduceIte, not_true_eq_false, not_false_eq_true, and_true, true_and, and_false, false_and, or_true, true_or, or_false, false_or, and_self, or_self, eq_self, decide_eq_true_eq, Bool.true_eq_false, reduceCtorEq, ne_eq]; done) | (simp [pPlace, c1, c2, c3, c4]; done))
theorem hdX2_placeStorage : yX2_placeStorage.cls ≠ "java/lang/invoke/MethodHandle" ∧ yX2_placeStorage.cls ≠ "java/lang/invoke/VarHandle" ∧ (parseMethodDescriptor yX2_placeStorage.desc).map (fun d => d.parameters.length) = some 1 := by decide +kernel
set_option maxHeartbeats 4000000 in
set_option maxRecDepth 100000 in
theorem c_X2_order (l : Launch) (a : Int32) (b : Int32) : Met l yX2_order wsX2_order ({ frames := 0, cells := 0, slots := 0, locals := 0 }) (stPc [.int a, .int b]) (vp_Si (fun ans => ans = pOrder a b)) 0 0 (fun _ => False) := by
  refine stOf (cc := cX2_order) (maxL := 2) (ret := (some .int)) (own := RX2) (by decide) rfl rfl (Nat.le_of_ble_eq_true rfl) ?_
  intro p e s m below meth c ls hx hb hr hts hown hml hlocks hl
  have hl : lv_has ls 2 [(0, .int a), (1, .int b)] := hl
  refine lv_iload_n hx hb dX2_order_0 rfl (lv_at hl 0 rfl) ?_
  refine lv_iload_n hx hb dX2_order_1 rfl (lv_at hl 1 rfl) ?_
  refine lv_icmp_ne (tgt := 7) hx hb dX2_order_2 (by decide) (fun c1 => ?_) (fun c1 => ?_)
  · skip
    refine lv_iload_n hx hb dX2_order_7 rfl (lv_at hl 0 rfl) ?_
    refine lv_iload_n hx hb dX2_order_8 rfl (lv_at hl 1 rfl) ?_
    refine lv_icmp_ge (tgt := 16) hx hb dX2_order_9 (by decide) (fun c2 => ?_) (fun c2 => ?_)
    · skip
      refine lv_iconst (v := 2) hx hb dX2_order_16 (by decide) ?_
      exact reI hx hb hr hlocks dX2_order_17 (by first | (simp only [pOrder, c1, c2, decide_true, decide_false, Bool.not_true, Bool.not_false, Bool.and_true, Bool.true_and, Bool.and_false, Bool.false_and, Bool.or_true, Bool.true_or, Bool.or_false, Bool.false_or, Bool.and_self, Bool.or_self, if_true, if_false, ite_true, ite_false, Bool.false_eq_true, reduceIte, not_true_eq_false, not_false_eq_true, and_true, true_and, and_false, false_and, or_true, true_or, or_false, false_or, and_self, or_self, eq_self, decide_eq_true_eq, Bool.true_eq_false, reduceCtorEq, ne_eq]; done) | (simp [pOrder, c1, c2, Int32.not_lt.mpr c2]; done))
    · skip
      refine lv_iconst (v := 0) hx hb dX2_order_12 (by decide) ?_
      refine lv_goto (tgt := 17) hx hb dX2_order_13 (by decide) ?_
      exact reI hx hb hr hlocks dX2_order_17 (by first | (simp only [pOrder, c1, c2, decide_true, decide_false, Bool.not_true, Bool.not_false, Bool.and_true, Bool.true_and, Bool.and_false, Bool.false_and, Bool.or_true, Bool.true_or, Bool.or_false, Bool.false_or, Bool.and_self, Bool.or_self, if_true, if_false, ite_true, ite_false, Bool.false_eq_true, reduceIte, not_true_eq_false, not_false_eq_true, and_true, true_and, and_false, false_and, or_true, true_or, or_false, false_or, and_self, or_self, eq_self, decide_eq_true_eq, Bool.true_eq_false, reduceCtorEq, ne_eq]; done) | (simp [pOrder, c1, c2, Int32.not_le.mp c2]; done))
  · skip
    refine lv_iconst (v := 1) hx hb dX2_order_5 (by decide) ?_
    exact reI hx hb hr hlocks dX2_order_6 (by first | (simp only [pOrder, eq_true c1, decide_true, decide_false, Bool.not_true, Bool.not_false, Bool.and_true, Bool.true_and, Bool.and_false, Bool.false_and, Bool.or_true, Bool.true_or, Bool.or_false, Bool.false_or, Bool.and_self, Bool.or_self, if_true, if_false, ite_true, ite_false, Bool.false_eq_true, reduceIte, not_true_eq_false, not_false_eq_true, and_true, true_and, and_false, false_and, or_true, true_or, or_false, false_or, and_self, or_self, eq_self, decide_eq_true_eq, Bool.true_eq_false, reduceCtorEq, ne_eq]; done) | (simp [pOrder, eq_true c1]; done))
theorem hdX2_order : yX2_order.cls ≠ "java/lang/invoke/MethodHandle" ∧ yX2_order.cls ≠ "java/lang/invoke/VarHandle" ∧ (parseMethodDescriptor yX2_order.desc).map (fun d => d.parameters.length) = some 2 := by decide +kernel
set_option maxHeartbeats 4000000 in
set_option maxRecDepth 100000 in
theorem c_X2_digits (l : Launch) (n : Int32) : Met l yX2_digits wsX2_digits ({ frames := 0, cells := 0, slots := 0, locals := 0 }) (stPc [.int n]) (vp_Si (fun ans => ans = pDigits n)) 0 0 (fun _ => False) := by
  refine stOf (cc := cX2_digits) (maxL := 1) (ret := (some .int)) (own := RX2) (by decide) rfl rfl (Nat.le_of_ble_eq_true rfl) ?_
  intro p e s m below meth c ls hx hb hr hts hown hml hlocks hl
  have hl : lv_has ls 1 [(0, .int n)] := hl
  refine lv_iload_n hx hb dX2_digits_0 rfl (lv_at hl 0 rfl) ?_
  refine lv_bipush (v := 10) hx hb dX2_digits_1 (by decide) ?_
  refine lv_icmp_ge (tgt := 8) hx hb dX2_digits_3 (by decide) (fun c1 => ?_) (fun c1 => ?_)
  · skip
    refine lv_iload_n hx hb dX2_digits_8 rfl (lv_at hl 0 rfl) ?_
    refine lv_bipush (v := 100) hx hb dX2_digits_9 (by decide) ?_
    refine lv_icmp_ge (tgt := 18) hx hb dX2_digits_11 (by decide) (fun c2 => ?_) (fun c2 => ?_)
    · skip
      refine lv_iconst (v := 3) hx hb dX2_digits_18 (by decide) ?_
      exact reI hx hb hr hlocks dX2_digits_19 (by first | (simp only [pDigits, c1, c2, decide_true, decide_false, Bool.not_true, Bool.not_false, Bool.and_true, Bool.true_and, Bool.and_false, Bool.false_and, Bool.or_true, Bool.true_or, Bool.or_false, Bool.false_or, Bool.and_self, Bool.or_self, if_true, if_false, ite_true, ite_false, Bool.false_eq_true, reduceIte, not_true_eq_false, not_false_eq_true, and_true, true_and, and_false, false_and, or_true, true_or, or_false, false_or, and_self, or_self, eq_self, decide_eq_true_eq, Bool.true_eq_false, reduceCtorEq, ne_eq]; done) | (simp [pDigits, c1, c2, Int32.not_lt.mpr c1, Int32.not_lt.mpr c2]; done))
    · skip
      refine lv_iconst (v := 2) hx hb dX2_digits_14 (by decide) ?_
      refine lv_goto (tgt := 19) hx hb dX2_digits_15 (by decide) ?_
      exact reI hx hb hr hlocks dX2_digits_19 (by first | (simp only [pDigits, c1, c2, decide_true, decide_false, Bool.not_true, Bool.not_false, Bool.and_true, Bool.true_and, Bool.and_false, Bool.false_and, Bool.or_true, Bool.true_or, Bool.or_false, Bool.false_or, Bool.and_self, Bool.or_self, if_true, if_false, ite_true, ite_false, Bool.false_eq_true, reduceIte, not_true_eq_false, not_false_eq_true, and_true, true_and, and_false, false_and, or_true, true_or, or_false, false_or, and_self, or_self, eq_self, decide_eq_true_eq, Bool.true_eq_false, reduceCtorEq, ne_eq]; done) | (simp [pDigits, c1, c2, Int32.not_lt.mpr c1, Int32.not_le.mp c2]; done))
  · skip
    refine lv_iconst (v := 1) hx hb dX2_digits_6 (by decide) ?_
    exact reI hx hb hr hlocks dX2_digits_7 (by first | (simp only [pDigits, c1, decide_true, decide_false, Bool.not_true, Bool.not_false, Bool.and_true, Bool.true_and, Bool.and_false, Bool.false_and, Bool.or_true, Bool.true_or, Bool.or_false, Bool.false_or, Bool.and_self, Bool.or_self, if_true, if_false, ite_true, ite_false, Bool.false_eq_true, reduceIte, not_true_eq_false, not_false_eq_true, and_true, true_and, and_false, false_and, or_true, true_or, or_false, false_or, and_self, or_self, eq_self, decide_eq_true_eq, Bool.true_eq_false, reduceCtorEq, ne_eq]; done) | (simp [pDigits, c1, Int32.not_le.mp c1]; done))
theorem hdX2_digits : yX2_digits.cls ≠ "java/lang/invoke/MethodHandle" ∧ yX2_digits.cls ≠ "java/lang/invoke/VarHandle" ∧ (parseMethodDescriptor yX2_digits.desc).map (fun d => d.parameters.length) = some 1 := by decide +kernel
set_option maxHeartbeats 4000000 in
set_option maxRecDepth 100000 in
theorem c_X2_known (l : Launch) (D : va_G) (Y : Nat → ClassId) (ad : OA) (t : OS) (x : Int32) (hok : oOK t) : Met l yX2_known wsX2_known ({ frames := 0, cells := 0, slots := 0, locals := 0 }) (rdPc D Y [.ref (oO ad), .int x] (oW Y ad t)) (vp_Si (fun ans => ans = bI (pKnown t x))) 0 0 (fun _ => False) := by
  refine rdOf (cc := cX2_known) (maxL := 2) (ret := (some .boolean)) (own := RX2) (by decide) rfl rfl (Nat.le_of_ble_eq_true rfl) ?_
  intro p e s m below meth c ls hx hb hr hts hown hml hlocks hP hK hl
  have iwX2 : ∀ w ∈ u_ws RX2 TX2 10, w ∈ wsX2_known := fun _ h => List.mem_cons_of_mem _ (List.mem_append_right _ h)
  have hl : lv_has ls 2 [(0, .ref (oO ad)), (1, .int x)] := hl
  refine lv_iload_n hx hb dX2_known_0 rfl (lv_at hl 1 rfl) ?_
  refine lv_if_lt (tgt := 16) hx hb dX2_known_1 (by decide) (fun c1 => ?_) (fun c1 => ?_)
  · skip
    refine lv_iconst (v := 0) hx hb dX2_known_16 (by decide) ?_
    exact reZ hx hb hr hlocks dX2_known_17 (by first | exact Or.inl rfl | exact Or.inr rfl | exact bI_01 _ | (rename_i h9; rw [h9]; exact bI_01 _) | (subst_vars; exact bI_01 _)) (by first | (simp only [pKnown, bI, c1, decide_true, decide_false, Bool.not_true, Bool.not_false, Bool.and_true, Bool.true_and, Bool.and_false, Bool.false_and, Bool.or_true, Bool.true_or, Bool.or_false, Bool.false_or, Bool.and_self, Bool.or_self, if_true, if_false, ite_true, ite_false, Bool.false_eq_true, reduceIte, not_true_eq_false, not_false_eq_true, and_true, true_and, and_false, false_and, or_true, true_or, or_false, false_or, and_self, or_self, eq_self, decide_eq_true_eq, Bool.true_eq_false, reduceCtorEq, ne_eq]; done) | (simp [pKnown, bI, c1, Int32.not_le.mpr c1]; done))
  · skip
    refine lv_iload_n hx hb dX2_known_4 rfl (lv_at hl 1 rfl) ?_
    refine lv_aload_n hx hb dX2_known_5 rfl (lv_at hl 0 rfl) ?_
    refine va_get (D := D) (ci := 3) (v := .int (oCnt t)) (C := RX2) (T := TX2) (N := 10) hx hb hts iwX2 hown hK hP 0 rfl rfl 8 (by decide) (hts (.fieldLink RX2 50 "ObjectRows" "count" "I") (by decide +kernel)) (fun _ h9 => h9) rfl dX2_known_6 ?_
    refine lv_icmp_ge (tgt := 16) hx hb dX2_known_9 (by decide) (fun c2 => ?_) (fun c2 => ?_)
    · skip
      refine lv_iconst (v := 0) hx hb dX2_known_16 (by decide) ?_
      exact reZ hx hb hr hlocks dX2_known_17 (by first | exact Or.inl rfl | exact Or.inr rfl | exact bI_01 _ | (rename_i h9; rw [h9]; exact bI_01 _) | (subst_vars; exact bI_01 _)) (by first | (simp only [pKnown, bI, c1, c2, decide_true, decide_false, Bool.not_true, Bool.not_false, Bool.and_true, Bool.true_and, Bool.and_false, Bool.false_and, Bool.or_true, Bool.true_or, Bool.or_false, Bool.false_or, Bool.and_self, Bool.or_self, if_true, if_false, ite_true, ite_false, Bool.false_eq_true, reduceIte, not_true_eq_false, not_false_eq_true, and_true, true_and, and_false, false_and, or_true, true_or, or_false, false_or, and_self, or_self, eq_self, decide_eq_true_eq, Bool.true_eq_false, reduceCtorEq, ne_eq]; done) | (simp [pKnown, bI, c1, c2, Int32.not_lt.mp c1, Int32.not_lt.mpr c2]; done))
    · skip
      refine lv_iconst (v := 1) hx hb dX2_known_12 (by decide) ?_
      refine lv_goto (tgt := 17) hx hb dX2_known_13 (by decide) ?_
      exact reZ hx hb hr hlocks dX2_known_17 (by first | exact Or.inl rfl | exact Or.inr rfl | exact bI_01 _ | (rename_i h9; rw [h9]; exact bI_01 _) | (subst_vars; exact bI_01 _)) (by first | (simp only [pKnown, bI, c1, c2, decide_true, decide_false, Bool.not_true, Bool.not_false, Bool.and_true, Bool.true_and, Bool.and_false, Bool.false_and, Bool.or_true, Bool.true_or, Bool.or_false, Bool.false_or, Bool.and_self, Bool.or_self, if_true, if_false, ite_true, ite_false, Bool.false_eq_true, reduceIte, not_true_eq_false, not_false_eq_true, and_true, true_and, and_false, false_and, or_true, true_or, or_false, false_or, and_self, or_self, eq_self, decide_eq_true_eq, Bool.true_eq_false, reduceCtorEq, ne_eq]; done) | (simp [pKnown, bI, c1, c2, Int32.not_lt.mp c1, Int32.not_le.mp c2]; done))
theorem hdX2_known : yX2_known.cls = RX2 ∧ yX2_known.cls ≠ "java/lang/invoke/MethodHandle" ∧ yX2_known.cls ≠ "java/lang/invoke/VarHandle" ∧ (parseMethodDescriptor yX2_known.desc).map (fun d => d.parameters.length) = some 1 := by decide +kernel
set_option maxHeartbeats 4000000 in
set_option maxRecDepth 100000 in
theorem c_X2_sizeFits (l : Launch) (D : va_G) (Y : Nat → ClassId) (ad : OA) (t : OS) (k : Int32) (z : Int32) (hok : oOK t) : Met l yX2_sizeFits wsX2_sizeFits ({ frames := 1, cells := 0, slots := 0, locals := 21 }) (rdPc D Y [.ref (oO ad), .int k, .int z] (oW Y ad t)) (vp_Si (fun ans => ans = bI (pFits t k z))) 0 0 (fun _ => False) := by
  refine rdOf (cc := cX2_sizeFits) (maxL := 3) (ret := (some .boolean)) (own := RX2) (by decide) rfl rfl (Nat.le_of_ble_eq_true rfl) ?_
  intro p e s m below meth c ls hx hb hr hts hown hml hlocks hP hK hl
  have iwX2 : ∀ w ∈ u_ws RX2 TX2 10, w ∈ wsX2_sizeFits := fun _ h => List.mem_cons_of_mem _ (List.mem_append_right _ h)
  have hl : lv_has ls 3 [(0, .ref (oO ad)), (1, .int k), (2, .int z)] := hl
  refine lv_iload_n hx hb dX2_sizeFits_0 rfl (lv_at hl 1 rfl) ?_
  by_cases c1 : k = 2
  · refine lv_tableIn (off := 39) (tgt := 40) hx hb dX2_sizeFits_1 (by rw [c1]; decide) (by rw [c1]; decide) (by rw [c1]; decide) (by decide) ?_
    refine lv_iload_n hx hb dX2_sizeFits_40 rfl (lv_at hl 2 rfl) ?_
    refine lv_iconst (v := 1) hx hb dX2_sizeFits_41 (by decide) ?_
    refine scI (As := [.int z, .int 1]) (rest := []) ⟨hx, hb, hml, hown, hts⟩ (c_X2_within l z 1) (va_cwS 2 hts gX2_sizeFits_X2_within rfl rfl rfl hdX2_within ⟨Nat.le_of_ble_eq_true rfl, Nat.le_of_ble_eq_true rfl⟩) rfl hl.1 rfl (Nat.le_of_ble_eq_true rfl) dX2_sizeFits_42 ⟨(Nat.zero_le _), (Nat.zero_le _)⟩ (fun r2 hr2 => ?_)
    replace hr2 : r2 = bI (pWithin z 1) := hr2
    cases b3 : pWithin z 1
    · replace hr2 : r2 = 0 := by rw [hr2, b3]; rfl
      subst hr2
      exact reZ hx hb hr hlocks dX2_sizeFits_45 (by first | exact Or.inl rfl | exact Or.inr rfl | exact bI_01 _ | (rename_i h9; rw [h9]; exact bI_01 _) | (subst_vars; exact bI_01 _)) (by first | (simp only [pFits, bI, c1, b3, decide_true, decide_false, Bool.not_true, Bool.not_false, Bool.and_true, Bool.true_and, Bool.and_false, Bool.false_and, Bool.or_true, Bool.true_or, Bool.or_false, Bool.false_or, Bool.and_self, Bool.or_self, if_true, if_false, ite_true, ite_false, Bool.false_eq_true, reduceIte, not_true_eq_false, not_false_eq_true, and_true, true_and, and_false, false_and, or_true, true_or, or_false, false_or, and_self, or_self, eq_self, decide_eq_true_eq, Bool.true_eq_false, reduceCtorEq, ne_eq]; done) | (simp [pFits, bI, c1, b3]; done))
    · replace hr2 : r2 = 1 := by rw [hr2, b3]; rfl
      subst hr2
      exact reZ hx hb hr hlocks dX2_sizeFits_45 (by first | exact Or.inl rfl | exact Or.inr rfl | exact bI_01 _ | (rename_i h9; rw [h9]; exact bI_01 _) | (subst_vars; exact bI_01 _)) (by first | (simp only [pFits, bI, c1, b3, decide_true, decide_false, Bool.not_true, Bool.not_false, Bool.and_true, Bool.true_and, Bool.and_false, Bool.false_and, Bool.or_true, Bool.true_or, Bool.or_false, Bool.false_or, Bool.and_self, Bool.or_self, if_true, if_false, ite_true, ite_false, Bool.false_eq_true, reduceIte, not_true_eq_false, not_false_eq_true, and_true, true_and, and_false, false_and, or_true, true_or, or_false, false_or, and_self, or_self, eq_self, decide_eq_true_eq, Bool.true_eq_false, reduceCtorEq, ne_eq]; done) | (simp [pFits, bI, c1, b3]; done))
  by_cases c4 : k = 3
  · refine lv_tableIn (off := 45) (tgt := 46) hx hb dX2_sizeFits_1 (by rw [c4]; decide) (by rw [c4]; decide) (by rw [c4]; decide) (by decide) ?_
    refine lv_iload_n hx hb dX2_sizeFits_46 rfl (lv_at hl 2 rfl) ?_
    refine lv_sipush (v := 999) hx hb dX2_sizeFits_47 (by decide) ?_
    refine scI (As := [.int z, .int 999]) (rest := []) ⟨hx, hb, hml, hown, hts⟩ (c_X2_within l z 999) (va_cwS 2 hts gX2_sizeFits_X2_within rfl rfl rfl hdX2_within ⟨Nat.le_of_ble_eq_true rfl, Nat.le_of_ble_eq_true rfl⟩) rfl hl.1 rfl (Nat.le_of_ble_eq_true rfl) dX2_sizeFits_50 ⟨(Nat.zero_le _), (Nat.zero_le _)⟩ (fun r5 hr5 => ?_)
    replace hr5 : r5 = bI (pWithin z 999) := hr5
    cases b6 : pWithin z 999
    · replace hr5 : r5 = 0 := by rw [hr5, b6]; rfl
      subst hr5
      exact reZ hx hb hr hlocks dX2_sizeFits_53 (by first | exact Or.inl rfl | exact Or.inr rfl | exact bI_01 _ | (rename_i h9; rw [h9]; exact bI_01 _) | (subst_vars; exact bI_01 _)) (by first | (simp only [pFits, bI, c1, c4, b6, decide_true, decide_false, Bool.not_true, Bool.not_false, Bool.and_true, Bool.true_and, Bool.and_false, Bool.false_and, Bool.or_true, Bool.true_or, Bool.or_false, Bool.false_or, Bool.and_self, Bool.or_self, if_true, if_false, ite_true, ite_false, Bool.false_eq_true, reduceIte, not_true_eq_false, not_false_eq_true, and_true, true_and, and_false, false_and, or_true, true_or, or_false, false_or, and_self, or_self, eq_self, decide_eq_true_eq, Bool.true_eq_false, reduceCtorEq, ne_eq]; done) | (simp [pFits, bI, c1, c4, b6]; done))
    · replace hr5 : r5 = 1 := by rw [hr5, b6]; rfl
      subst hr5
      exact reZ hx hb hr hlocks dX2_sizeFits_53 (by first | exact Or.inl rfl | exact Or.inr rfl | exact bI_01 _ | (rename_i h9; rw [h9]; exact bI_01 _) | (subst_vars; exact bI_01 _)) (by first | (simp only [pFits, bI, c1, c4, b6, decide_true, decide_false, Bool.not_true, Bool.not_false, Bool.and_true, Bool.true_and, Bool.and_false, Bool.false_and, Bool.or_true, Bool.true_or, Bool.or_false, Bool.false_or, Bool.and_self, Bool.or_self, if_true, if_false, ite_true, ite_false, Bool.false_eq_true, reduceIte, not_true_eq_false, not_false_eq_true, and_true, true_and, and_false, false_and, or_true, true_or, or_false, false_or, and_self, or_self, eq_self, decide_eq_true_eq, Bool.true_eq_false, reduceCtorEq, ne_eq]; done) | (simp [pFits, bI, c1, c4, b6]; done))
  by_cases c7 : k = 4
  · refine lv_tableIn (off := 53) (tgt := 54) hx hb dX2_sizeFits_1 (by rw [c7]; decide) (by rw [c7]; decide) (by rw [c7]; decide) (by decide) ?_
    refine lv_iload_n hx hb dX2_sizeFits_54 rfl (lv_at hl 2 rfl) ?_
    refine lv_bipush (v := 64) hx hb dX2_sizeFits_55 (by decide) ?_
    refine scI (As := [.int z, .int 64]) (rest := []) ⟨hx, hb, hml, hown, hts⟩ (c_X2_within l z 64) (va_cwS 2 hts gX2_sizeFits_X2_within rfl rfl rfl hdX2_within ⟨Nat.le_of_ble_eq_true rfl, Nat.le_of_ble_eq_true rfl⟩) rfl hl.1 rfl (Nat.le_of_ble_eq_true rfl) dX2_sizeFits_57 ⟨(Nat.zero_le _), (Nat.zero_le _)⟩ (fun r8 hr8 => ?_)
    replace hr8 : r8 = bI (pWithin z 64) := hr8
    cases b9 : pWithin z 64
    · replace hr8 : r8 = 0 := by rw [hr8, b9]; rfl
      subst hr8
      exact reZ hx hb hr hlocks dX2_sizeFits_60 (by first | exact Or.inl rfl | exact Or.inr rfl | exact bI_01 _ | (rename_i h9; rw [h9]; exact bI_01 _) | (subst_vars; exact bI_01 _)) (by first | (simp only [pFits, bI, c1, c4, c7, b9, decide_true, decide_false, Bool.not_true, Bool.not_false, Bool.and_true, Bool.true_and, Bool.and_false, Bool.false_and, Bool.or_true, Bool.true_or, Bool.or_false, Bool.false_or, Bool.and_self, Bool.or_self, if_true, if_false, ite_true, ite_false, Bool.false_eq_true, reduceIte, not_true_eq_false, not_false_eq_true, and_true, true_and, and_false, false_and, or_true, true_or, or_false, false_or, and_self, or_self, eq_self, decide_eq_true_eq, Bool.true_eq_false, reduceCtorEq, ne_eq]; done) | (simp [pFits, bI, c1, c4, c7, b9]; done))
    · replace hr8 : r8 = 1 := by rw [hr8, b9]; rfl
      subst hr8
      exact reZ hx hb hr hlocks dX2_sizeFits_60 (by first | exact Or.inl rfl | exact Or.inr rfl | exact bI_01 _ | (rename_i h9; rw [h9]; exact bI_01 _) | (subst_vars; exact bI_01 _)) (by first | (simp only [pFits, bI, c1, c4, c7, b9, decide_true, decide_false, Bool.not_true, Bool.not_false, Bool.and_true, Bool.true_and, Bool.and_false, Bool.false_and, Bool.or_true, Bool.true_or, Bool.or_false, Bool.false_or, Bool.and_self, Bool.or_self, if_true, if_false, ite_true, ite_false, Bool.false_eq_true, reduceIte, not_true_eq_false, not_false_eq_true, and_true, true_and, and_false, false_and, or_true, true_or, or_false, false_or, and_self, or_self, eq_self, decide_eq_true_eq, Bool.true_eq_false, reduceCtorEq, ne_eq]; done) | (simp [pFits, bI, c1, c4, c7, b9]; done))
  by_cases c10 : k = 5
  · refine lv_tableIn (off := 60) (tgt := 61) hx hb dX2_sizeFits_1 (by rw [c10]; decide) (by rw [c10]; decide) (by rw [c10]; decide) (by decide) ?_
    refine lv_iload_n hx hb dX2_sizeFits_61 rfl (lv_at hl 2 rfl) ?_
    refine lv_bipush (v := 32) hx hb dX2_sizeFits_62 (by decide) ?_
    refine scI (As := [.int z, .int 32]) (rest := []) ⟨hx, hb, hml, hown, hts⟩ (c_X2_within l z 32) (va_cwS 2 hts gX2_sizeFits_X2_within rfl rfl rfl hdX2_within ⟨Nat.le_of_ble_eq_true rfl, Nat.le_of_ble_eq_true rfl⟩) rfl hl.1 rfl (Nat.le_of_ble_eq_true rfl) dX2_sizeFits_64 ⟨(Nat.zero_le _), (Nat.zero_le _)⟩ (fun r11 hr11 => ?_)
    replace hr11 : r11 = bI (pWithin z 32) := hr11
    cases b12 : pWithin z 32
    · replace hr11 : r11 = 0 := by rw [hr11, b12]; rfl
      subst hr11
      exact reZ hx hb hr hlocks dX2_sizeFits_67 (by first | exact Or.inl rfl | exact Or.inr rfl | exact bI_01 _ | (rename_i h9; rw [h9]; exact bI_01 _) | (subst_vars; exact bI_01 _)) (by first | (simp only [pFits, bI, c1, c4, c7, c10, b12, decide_true, decide_false, Bool.not_true, Bool.not_false, Bool.and_true, Bool.true_and, Bool.and_false, Bool.false_and, Bool.or_true, Bool.true_or, Bool.or_false, Bool.false_or, Bool.and_self, Bool.or_self, if_true, if_false, ite_true, ite_false, Bool.false_eq_true, reduceIte, not_true_eq_false, not_false_eq_true, and_true, true_and, and_false, false_and, or_true, true_or, or_false, false_or, and_self, or_self, eq_self, decide_eq_true_eq, Bool.true_eq_false, reduceCtorEq, ne_eq]; done) | (simp [pFits, bI, c1, c4, c7, c10, b12]; done))
    · replace hr11 : r11 = 1 := by rw [hr11, b12]; rfl
      subst hr11
      exact reZ hx hb hr hlocks dX2_sizeFits_67 (by first | exact Or.inl rfl | exact Or.inr rfl | exact bI_01 _ | (rename_i h9; rw [h9]; exact bI_01 _) | (subst_vars; exact bI_01 _)) (by first | (simp only [pFits, bI, c1, c4, c7, c10, b12, decide_true, decide_false, Bool.not_true, Bool.not_false, Bool.and_true, Bool.true_and, Bool.and_false, Bool.false_and, Bool.or_true, Bool.true_or, Bool.or_false, Bool.false_or, Bool.and_self, Bool.or_self, if_true, if_false, ite_true, ite_false, Bool.false_eq_true, reduceIte, not_true_eq_false, not_false_eq_true, and_true, true_and, and_false, false_and, or_true, true_or, or_false, false_or, and_self, or_self, eq_self, decide_eq_true_eq, Bool.true_eq_false, reduceCtorEq, ne_eq]; done) | (simp [pFits, bI, c1, c4, c7, c10, b12]; done))
  by_cases c13 : k = 6
  · refine lv_tableIn (off := 67) (tgt := 68) hx hb dX2_sizeFits_1 (by rw [c13]; decide) (by rw [c13]; decide) (by rw [c13]; decide) (by decide) ?_
    refine lv_iload_n hx hb dX2_sizeFits_68 rfl (lv_at hl 2 rfl) ?_
    refine lv_bipush (v := 32) hx hb dX2_sizeFits_69 (by decide) ?_
    refine lv_aload_n hx hb dX2_sizeFits_71 rfl (lv_at hl 0 rfl) ?_
    refine va_get (D := D) (ci := 3) (v := .int (oCnt t)) (C := RX2) (T := TX2) (N := 10) hx hb hts iwX2 hown hK hP 0 rfl rfl 8 (by decide) (hts (.fieldLink RX2 50 "ObjectRows" "count" "I") (by decide +kernel)) (fun _ h9 => h9) rfl dX2_sizeFits_72 ?_
    refine va_mmin hx hb (hml.trans hl.1.symm) hown (hts (.methodLink RX2 186 Lib.Math.min.name) (by decide +kernel)) (hts (.static Lib.Math.min.name) (by decide +kernel)) (hts (.initialized "java/lang/Math") (by decide +kernel)) (hts (.code Lib.Math.min.name Lib.Math.min.code 2 (some .int)) (by decide +kernel)) (Nat.le_of_ble_eq_true rfl) (Nat.le_of_ble_eq_true rfl) (Nat.zero_le _) (Nat.zero_le _) dX2_sizeFits_75 ?_
    refine scI (As := [.int z, .int (if oCnt t < 32 then oCnt t else 32)]) (rest := []) ⟨hx, hb, hml, hown, hts⟩ (c_X2_within l z (if oCnt t < 32 then oCnt t else 32)) (va_cwS 2 hts gX2_sizeFits_X2_within rfl rfl rfl hdX2_within ⟨Nat.le_of_ble_eq_true rfl, Nat.le_of_ble_eq_true rfl⟩) rfl hl.1 rfl (Nat.le_of_ble_eq_true rfl) dX2_sizeFits_78 ⟨(Nat.zero_le _), (Nat.zero_le _)⟩ (fun r14 hr14 => ?_)
    replace hr14 : r14 = bI (pWithin z (if oCnt t < 32 then oCnt t else 32)) := hr14
    cases b15 : pWithin z (if oCnt t < 32 then oCnt t else 32)
    · replace hr14 : r14 = 0 := by rw [hr14, b15]; rfl
      subst hr14
      exact reZ hx hb hr hlocks dX2_sizeFits_81 (by first | exact Or.inl rfl | exact Or.inr rfl | exact bI_01 _ | (rename_i h9; rw [h9]; exact bI_01 _) | (subst_vars; exact bI_01 _)) (by first | (simp only [pFits, bI, c1, c4, c7, c10, c13, b15, decide_true, decide_false, Bool.not_true, Bool.not_false, Bool.and_true, Bool.true_and, Bool.and_false, Bool.false_and, Bool.or_true, Bool.true_or, Bool.or_false, Bool.false_or, Bool.and_self, Bool.or_self, if_true, if_false, ite_true, ite_false, Bool.false_eq_true, reduceIte, not_true_eq_false, not_false_eq_true, and_true, true_and, and_false, false_and, or_true, true_or, or_false, false_or, and_self, or_self, eq_self, decide_eq_true_eq, Bool.true_eq_false, reduceCtorEq, ne_eq]; done) | (simp [pFits, bI, c1, c4, c7, c10, c13, b15]; done))
    · replace hr14 : r14 = 1 := by rw [hr14, b15]; rfl
      subst hr14
      exact reZ hx hb hr hlocks dX2_sizeFits_81 (by first | exact Or.inl rfl | exact Or.inr rfl | exact bI_01 _ | (rename_i h9; rw [h9]; exact bI_01 _) | (subst_vars; exact bI_01 _)) (by first | (simp only [pFits, bI, c1, c4, c7, c10, c13, b15, decide_true, decide_false, Bool.not_true, Bool.not_false, Bool.and_true, Bool.true_and, Bool.and_false, Bool.false_and, Bool.or_true, Bool.true_or, Bool.or_false, Bool.false_or, Bool.and_self, Bool.or_self, if_true, if_false, ite_true, ite_false, Bool.false_eq_true, reduceIte, not_true_eq_false, not_false_eq_true, and_true, true_and, and_false, false_and, or_true, true_or, or_false, false_or, and_self, or_self, eq_self, decide_eq_true_eq, Bool.true_eq_false, reduceCtorEq, ne_eq]; done) | (simp [pFits, bI, c1, c4, c7, c10, c13, b15]; done))
  by_cases c16 : k = 7
  · refine lv_tableIn (off := 81) (tgt := 82) hx hb dX2_sizeFits_1 (by rw [c16]; decide) (by rw [c16]; decide) (by rw [c16]; decide) (by decide) ?_
    refine lv_iload_n hx hb dX2_sizeFits_82 rfl (lv_at hl 2 rfl) ?_
    refine lv_bipush (v := 32) hx hb dX2_sizeFits_83 (by decide) ?_
    refine scI (As := [.int z, .int 32]) (rest := []) ⟨hx, hb, hml, hown, hts⟩ (c_X2_within l z 32) (va_cwS 2 hts gX2_sizeFits_X2_within rfl rfl rfl hdX2_within ⟨Nat.le_of_ble_eq_true rfl, Nat.le_of_ble_eq_true rfl⟩) rfl hl.1 rfl (Nat.le_of_ble_eq_true rfl) dX2_sizeFits_85 ⟨(Nat.zero_le _), (Nat.zero_le _)⟩ (fun r17 hr17 => ?_)
    replace hr17 : r17 = bI (pWithin z 32) := hr17
    cases b18 : pWithin z 32
    · replace hr17 : r17 = 0 := by rw [hr17, b18]; rfl
      subst hr17
      exact reZ hx hb hr hlocks dX2_sizeFits_88 (by first | exact Or.inl rfl | exact Or.inr rfl | exact bI_01 _ | (rename_i h9; rw [h9]; exact bI_01 _) | (subst_vars; exact bI_01 _)) (by first | (simp only [pFits, bI, c1, c4, c7, c10, c13, c16, b18, decide_true, decide_false, Bool.not_true, Bool.not_false, Bool.and_true, Bool.true_and, Bool.and_false, Bool.false_and, Bool.or_true, Bool.true_or, Bool.or_false, Bool.false_or, Bool.and_self, Bool.or_self, if_true, if_false, ite_true, ite_false, Bool.false_eq_true, reduceIte, not_true_eq_false, not_false_eq_true, and_true, true_and, and_false, false_and, or_true, true_or, or_false, false_or, and_self, or_self, eq_self, decide_eq_true_eq, Bool.true_eq_false, reduceCtorEq, ne_eq]; done) | (simp [pFits, bI, c1, c4, c7, c10, c13, c16, b18]; done))
    · replace hr17 : r17 = 1 := by rw [hr17, b18]; rfl
      subst hr17
      exact reZ hx hb hr hlocks dX2_sizeFits_88 (by first | exact Or.inl rfl | exact Or.inr rfl | exact bI_01 _ | (rename_i h9; rw [h9]; exact bI_01 _) | (subst_vars; exact bI_01 _)) (by first | (simp only [pFits, bI, c1, c4, c7, c10, c13, c16, b18, decide_true, decide_false, Bool.not_true, Bool.not_false, Bool.and_true, Bool.true_and, Bool.and_false, Bool.false_and, Bool.or_true, Bool.true_or, Bool.or_false, Bool.false_or, Bool.and_self, Bool.or_self, if_true, if_false, ite_true, ite_false, Bool.false_eq_true, reduceIte, not_true_eq_false, not_false_eq_true, and_true, true_and, and_false, false_and, or_true, true_or, or_false, false_or, and_self, or_self, eq_self, decide_eq_true_eq, Bool.true_eq_false, reduceCtorEq, ne_eq]; done) | (simp [pFits, bI, c1, c4, c7, c10, c13, c16, b18]; done))
  refine lv_tableD (tgt := 89) hx hb dX2_sizeFits_1 (tblD (ks := [2, 3, 4, 5, 6, 7]) (by decide) (List.forall_mem_cons.mpr ⟨neI c1 (by decide), (List.forall_mem_cons.mpr ⟨neI c4 (by decide), (List.forall_mem_cons.mpr ⟨neI c7 (by decide), (List.forall_mem_cons.mpr ⟨neI c10 (by decide), (List.forall_mem_cons.mpr ⟨neI c13 (by decide), (List.forall_mem_cons.mpr ⟨neI c16 (by decide), (fun _ h => absurd h List.not_mem_nil)⟩)⟩)⟩)⟩)⟩)⟩) (by decide)) (by decide) ?_
  refine lv_iconst (v := 1) hx hb dX2_sizeFits_89 (by decide) ?_
  exact reZ hx hb hr hlocks dX2_sizeFits_90 (by first | exact Or.inl rfl | exact Or.inr rfl | exact bI_01 _ | (rename_i h9; rw [h9]; exact bI_01 _) | (subst_vars; exact bI_01 _)) (by first | (simp only [pFits, bI, c1, c4, c7, c10, c13, c16, decide_true, decide_false, Bool.not_true, Bool.not_false, Bool.and_true, Bool.true_and, Bool.and_false, Bool.false_and, Bool.or_true, Bool.true_or, Bool.or_false, Bool.false_or, Bool.and_self, Bool.or_self, if_true, if_false, ite_true, ite_false, Bool.false_eq_true, reduceIte, not_true_eq_false, not_false_eq_true, and_true, true_and, and_false, false_and, or_true, true_or, or_false, false_or, and_self, or_self, eq_self, decide_eq_true_eq, Bool.true_eq_false, reduceCtorEq, ne_eq]; done) | (simp [pFits, bI, c1, c4, c7, c10, c13, c16]; done))
theorem hdX2_sizeFits : yX2_sizeFits.cls = RX2 ∧ yX2_sizeFits.cls ≠ "java/lang/invoke/MethodHandle" ∧ yX2_sizeFits.cls ≠ "java/lang/invoke/VarHandle" ∧ (parseMethodDescriptor yX2_sizeFits.desc).map (fun d => d.parameters.length) = some 2 := by decide +kernel
set_option maxHeartbeats 4000000 in
set_option maxRecDepth 100000 in
theorem c_X2_hasElement (l : Launch) (D : va_G) (Y : Nat → ClassId) (ad : OA) (t : OS) (x : Int32) (i : Int32) (hok : oOK t) : Met l yX2_hasElement wsX2_hasElement ({ frames := 1, cells := 0, slots := 0, locals := 21 }) (rdPc D Y [.ref (oO ad), .int x, .int i] (oW Y ad t)) (vp_Si (fun ans => ans = bI (pHasEl t x i))) 0 0 (fun _ => False) := by
  refine rdOf (cc := cX2_hasElement) (maxL := 3) (ret := (some .boolean)) (own := RX2) (by decide) rfl rfl (Nat.le_of_ble_eq_true rfl) ?_
  intro p e s m below meth c ls hx hb hr hts hown hml hlocks hP hK hl
  have iwX2 : ∀ w ∈ u_ws RX2 TX2 10, w ∈ wsX2_hasElement := fun _ h => List.mem_cons_of_mem _ (List.mem_append_left _ (List.mem_append_right _ h))
  have hl : lv_has ls 3 [(0, .ref (oO ad)), (1, .int x), (2, .int i)] := hl
  refine lv_iload_n hx hb dX2_hasElement_0 rfl (lv_at hl 2 rfl) ?_
  refine lv_if_lt (tgt := 20) hx hb dX2_hasElement_1 (by decide) (fun c1 => ?_) (fun c1 => ?_)
  · skip
    refine lv_iconst (v := 0) hx hb dX2_hasElement_20 (by decide) ?_
    exact reZ hx hb hr hlocks dX2_hasElement_21 (by first | exact Or.inl rfl | exact Or.inr rfl | exact bI_01 _ | (rename_i h9; rw [h9]; exact bI_01 _) | (subst_vars; exact bI_01 _)) (by first | (simp only [pHasEl, bI, c1, decide_true, decide_false, Bool.not_true, Bool.not_false, Bool.and_true, Bool.true_and, Bool.and_false, Bool.false_and, Bool.or_true, Bool.true_or, Bool.or_false, Bool.false_or, Bool.and_self, Bool.or_self, if_true, if_false, ite_true, ite_false, Bool.false_eq_true, reduceIte, not_true_eq_false, not_false_eq_true, and_true, true_and, and_false, false_and, or_true, true_or, or_false, false_or, and_self, or_self, eq_self, decide_eq_true_eq, Bool.true_eq_false, reduceCtorEq, ne_eq]; done) | (simp [pHasEl, bI, c1, Int32.not_le.mpr c1]; done))
  · skip
    refine lv_iload_n hx hb dX2_hasElement_4 rfl (lv_at hl 2 rfl) ?_
    refine lv_aload_n hx hb dX2_hasElement_5 rfl (lv_at hl 0 rfl) ?_
    refine va_get (D := D) (ci := 3) (v := .ref (oH ad 4)) (C := RX2) (T := TX2) (N := 10) hx hb hts iwX2 hown hK hP 0 rfl rfl 4 (by decide) (hts (.fieldLink RX2 25 "ObjectRows" "lengths" "LObjectRows$Row;") (by decide +kernel)) (fun _ h9 => h9) rfl dX2_hasElement_6 ?_
    refine lv_iload_n hx hb dX2_hasElement_9 rfl (lv_at hl 1 rfl) ?_
    refine rcI (As := [.int x]) (rest := [.int i]) ⟨hx, hb, hml, hown, hts⟩ (c_X1_at l D Y (oH ad 4) (oR t 4) x (hok 4 (by decide))) (cwV 1 hts gX2_hasElement_X1_at rfl rfl rfl hdX1_at ⟨Nat.le_of_ble_eq_true rfl, Nat.le_of_ble_eq_true rfl⟩) (oWr4 hP) hK 0 2 rfl rfl rfl hl.1 rfl (Nat.le_of_ble_eq_true rfl) dX2_hasElement_10 ⟨(Nat.zero_le _), (Nat.zero_le _)⟩ (fun r2 hr2 => ?_)
    obtain rfl : r2 = len t x := hr2
    refine lv_icmp_ge (tgt := 20) hx hb dX2_hasElement_13 (by decide) (fun c3 => ?_) (fun c3 => ?_)
    · skip
      refine lv_iconst (v := 0) hx hb dX2_hasElement_20 (by decide) ?_
      exact reZ hx hb hr hlocks dX2_hasElement_21 (by first | exact Or.inl rfl | exact Or.inr rfl | exact bI_01 _ | (rename_i h9; rw [h9]; exact bI_01 _) | (subst_vars; exact bI_01 _)) (by first | (simp only [pHasEl, bI, c1, c3, decide_true, decide_false, Bool.not_true, Bool.not_false, Bool.and_true, Bool.true_and, Bool.and_false, Bool.false_and, Bool.or_true, Bool.true_or, Bool.or_false, Bool.false_or, Bool.and_self, Bool.or_self, if_true, if_false, ite_true, ite_false, Bool.false_eq_true, reduceIte, not_true_eq_false, not_false_eq_true, and_true, true_and, and_false, false_and, or_true, true_or, or_false, false_or, and_self, or_self, eq_self, decide_eq_true_eq, Bool.true_eq_false, reduceCtorEq, ne_eq]; done) | (simp [pHasEl, bI, c1, c3, Int32.not_lt.mp c1, Int32.not_lt.mpr c3]; done))
    · skip
      refine lv_iconst (v := 1) hx hb dX2_hasElement_16 (by decide) ?_
      refine lv_goto (tgt := 21) hx hb dX2_hasElement_17 (by decide) ?_
      exact reZ hx hb hr hlocks dX2_hasElement_21 (by first | exact Or.inl rfl | exact Or.inr rfl | exact bI_01 _ | (rename_i h9; rw [h9]; exact bI_01 _) | (subst_vars; exact bI_01 _)) (by first | (simp only [pHasEl, bI, c1, c3, decide_true, decide_false, Bool.not_true, Bool.not_false, Bool.and_true, Bool.true_and, Bool.and_false, Bool.false_and, Bool.or_true, Bool.true_or, Bool.or_false, Bool.false_or, Bool.and_self, Bool.or_self, if_true, if_false, ite_true, ite_false, Bool.false_eq_true, reduceIte, not_true_eq_false, not_false_eq_true, and_true, true_and, and_false, false_and, or_true, true_or, or_false, false_or, and_self, or_self, eq_self, decide_eq_true_eq, Bool.true_eq_false, reduceCtorEq, ne_eq]; done) | (simp [pHasEl, bI, c1, c3, Int32.not_lt.mp c1, Int32.not_le.mp c3]; done))
theorem hdX2_hasElement : yX2_hasElement.cls = RX2 ∧ yX2_hasElement.cls ≠ "java/lang/invoke/MethodHandle" ∧ yX2_hasElement.cls ≠ "java/lang/invoke/VarHandle" ∧ (parseMethodDescriptor yX2_hasElement.desc).map (fun d => d.parameters.length) = some 2 := by decide +kernel
set_option maxHeartbeats 4000000 in
set_option maxRecDepth 100000 in
theorem c_X2_hasPart (l : Launch) (D : va_G) (Y : Nat → ClassId) (ad : OA) (t : OS) (x : Int32) (f : Int32) (n : Int32) (hok : oOK t) : Met l yX2_hasPart wsX2_hasPart ({ frames := 1, cells := 0, slots := 0, locals := 21 }) (rdPc D Y [.ref (oO ad), .int x, .int f, .int n] (oW Y ad t)) (vp_Si (fun ans => ans = bI (pHasPart t x f n))) 0 0 (fun _ => False) := by
  refine rdOf (cc := cX2_hasPart) (maxL := 5) (ret := (some .boolean)) (own := RX2) (by decide) rfl rfl (Nat.le_of_ble_eq_true rfl) ?_
  intro p e s m below meth c ls hx hb hr hts hown hml hlocks hP hK hl
  have iwX2 : ∀ w ∈ u_ws RX2 TX2 10, w ∈ wsX2_hasPart := fun _ h => List.mem_cons_of_mem _ (List.mem_append_left _ (List.mem_append_right _ h))
  have hl : lv_has ls 5 [(0, .ref (oO ad)), (1, .int x), (2, .int f), (3, .int n)] := hl
  refine lv_aload_n hx hb dX2_hasPart_0 rfl (lv_at hl 0 rfl) ?_
  refine va_get (D := D) (ci := 3) (v := .ref (oH ad 4)) (C := RX2) (T := TX2) (N := 10) hx hb hts iwX2 hown hK hP 0 rfl rfl 4 (by decide) (hts (.fieldLink RX2 25 "ObjectRows" "lengths" "LObjectRows$Row;") (by decide +kernel)) (fun _ h9 => h9) rfl dX2_hasPart_1 ?_
  refine lv_iload_n hx hb dX2_hasPart_4 rfl (lv_at hl 1 rfl) ?_
  refine rcI (As := [.int x]) (rest := []) ⟨hx, hb, hml, hown, hts⟩ (c_X1_at l D Y (oH ad 4) (oR t 4) x (hok 4 (by decide))) (cwV 1 hts gX2_hasPart_X1_at rfl rfl rfl hdX1_at ⟨Nat.le_of_ble_eq_true rfl, Nat.le_of_ble_eq_true rfl⟩) (oWr4 hP) hK 0 2 rfl rfl rfl hl.1 rfl (Nat.le_of_ble_eq_true rfl) dX2_hasPart_5 ⟨(Nat.zero_le _), (Nat.zero_le _)⟩ (fun r1 hr1 => ?_)
  obtain rfl : r1 = len t x := hr1
  refine lv_istore (lv' := [(4, .int (len t x)), (0, .ref (oO ad)), (1, .int x), (2, .int f), (3, .int n)]) hx hb dX2_hasPart_8 hl (by decide) rfl (fun ls hl => ?_)
  refine lv_iload_n hx hb dX2_hasPart_10 rfl (lv_at hl 3 rfl) ?_
  refine lv_iload hx hb dX2_hasPart_11 (lv_at hl 0 rfl) ?_
  refine scI (As := [.int f, .int (len t x)]) (rest := []) ⟨hx, hb, hml, hown, hts⟩ (c_X2_within l f (len t x)) (va_cwS 2 hts gX2_hasPart_X2_within rfl rfl rfl hdX2_within ⟨Nat.le_of_ble_eq_true rfl, Nat.le_of_ble_eq_true rfl⟩) rfl hl.1 rfl (Nat.le_of_ble_eq_true rfl) dX2_hasPart_13 ⟨(Nat.zero_le _), (Nat.zero_le _)⟩ (fun r2 hr2 => ?_)
  replace hr2 : r2 = bI (pWithin f (len t x)) := hr2
  cases b3 : pWithin f (len t x)
  · replace hr2 : r2 = 0 := by rw [hr2, b3]; rfl
    subst hr2
    refine lv_if_eq (tgt := 34) hx hb dX2_hasPart_16 (by decide) (fun _ => ?_) (fun c4 => absurd (by decide) c4)
    refine lv_iconst (v := 0) hx hb dX2_hasPart_34 (by decide) ?_
    exact reZ hx hb hr hlocks dX2_hasPart_35 (by first | exact Or.inl rfl | exact Or.inr rfl | exact bI_01 _ | (rename_i h9; rw [h9]; exact bI_01 _) | (subst_vars; exact bI_01 _)) (by first | (simp only [pHasPart, bI, b3, decide_true, decide_false, Bool.not_true, Bool.not_false, Bool.and_true, Bool.true_and, Bool.and_false, Bool.false_and, Bool.or_true, Bool.true_or, Bool.or_false, Bool.false_or, Bool.and_self, Bool.or_self, if_true, if_false, ite_true, ite_false, Bool.false_eq_true, reduceIte, not_true_eq_false, not_false_eq_true, and_true, true_and, and_false, false_and, or_true, true_or, or_false, false_or, and_self, or_self, eq_self, decide_eq_true_eq, Bool.true_eq_false, reduceCtorEq, ne_eq]; done) | (simp [pHasPart, bI, b3]; done))
  · replace hr2 : r2 = 1 := by rw [hr2, b3]; rfl
    subst hr2
    refine lv_if_eq (tgt := 34) hx hb dX2_hasPart_16 (by decide) (fun c5 => absurd c5 (by decide)) (fun _ => ?_)
    refine lv_iload_n hx hb dX2_hasPart_19 rfl (lv_at hl 4 rfl) ?_
    refine lv_iload hx hb dX2_hasPart_20 (lv_at hl 0 rfl) ?_
    refine lv_iload_n hx hb dX2_hasPart_22 rfl (lv_at hl 3 rfl) ?_
    refine lv_isub hx hb dX2_hasPart_23 ?_
    refine scI (As := [.int n, .int ((len t x) - f)]) (rest := []) ⟨hx, hb, hml, hown, hts⟩ (c_X2_within l n ((len t x) - f)) (va_cwS 2 hts gX2_hasPart_X2_within rfl rfl rfl hdX2_within ⟨Nat.le_of_ble_eq_true rfl, Nat.le_of_ble_eq_true rfl⟩) rfl hl.1 rfl (Nat.le_of_ble_eq_true rfl) dX2_hasPart_24 ⟨(Nat.zero_le _), (Nat.zero_le _)⟩ (fun r6 hr6 => ?_)
    replace hr6 : r6 = bI (pWithin n ((len t x) - f)) := hr6
    cases b7 : pWithin n ((len t x) - f)
    · replace hr6 : r6 = 0 := by rw [hr6, b7]; rfl
      subst hr6
      refine lv_if_eq (tgt := 34) hx hb dX2_hasPart_27 (by decide) (fun _ => ?_) (fun c8 => absurd (by decide) c8)
      refine lv_iconst (v := 0) hx hb dX2_hasPart_34 (by decide) ?_
      exact reZ hx hb hr hlocks dX2_hasPart_35 (by first | exact Or.inl rfl | exact Or.inr rfl | exact bI_01 _ | (rename_i h9; rw [h9]; exact bI_01 _) | (subst_vars; exact bI_01 _)) (by first | (simp only [pHasPart, bI, b3, b7, decide_true, decide_false, Bool.not_true, Bool.not_false, Bool.and_true, Bool.true_and, Bool.and_false, Bool.false_and, Bool.or_true, Bool.true_or, Bool.or_false, Bool.false_or, Bool.and_self, Bool.or_self, if_true, if_false, ite_true, ite_false, Bool.false_eq_true, reduceIte, not_true_eq_false, not_false_eq_true, and_true, true_and, and_false, false_and, or_true, true_or, or_false, false_or, and_self, or_self, eq_self, decide_eq_true_eq, Bool.true_eq_false, reduceCtorEq, ne_eq]; done) | (simp [pHasPart, bI, b3, b7]; done))
    · replace hr6 : r6 = 1 := by rw [hr6, b7]; rfl
      subst hr6
      refine lv_if_eq (tgt := 34) hx hb dX2_hasPart_27 (by decide) (fun c9 => absurd c9 (by decide)) (fun _ => ?_)
      refine lv_iconst (v := 1) hx hb dX2_hasPart_30 (by decide) ?_
      refine lv_goto (tgt := 35) hx hb dX2_hasPart_31 (by decide) ?_
      exact reZ hx hb hr hlocks dX2_hasPart_35 (by first | exact Or.inl rfl | exact Or.inr rfl | exact bI_01 _ | (rename_i h9; rw [h9]; exact bI_01 _) | (subst_vars; exact bI_01 _)) (by first | (simp only [pHasPart, bI, b3, b7, decide_true, decide_false, Bool.not_true, Bool.not_false, Bool.and_true, Bool.true_and, Bool.and_false, Bool.false_and, Bool.or_true, Bool.true_or, Bool.or_false, Bool.false_or, Bool.and_self, Bool.or_self, if_true, if_false, ite_true, ite_false, Bool.false_eq_true, reduceIte, not_true_eq_false, not_false_eq_true, and_true, true_and, and_false, false_and, or_true, true_or, or_false, false_or, and_self, or_self, eq_self, decide_eq_true_eq, Bool.true_eq_false, reduceCtorEq, ne_eq]; done) | (simp [pHasPart, bI, b3, b7]; done))
theorem hdX2_hasPart : yX2_hasPart.cls = RX2 ∧ yX2_hasPart.cls ≠ "java/lang/invoke/MethodHandle" ∧ yX2_hasPart.cls ≠ "java/lang/invoke/VarHandle" ∧ (parseMethodDescriptor yX2_hasPart.desc).map (fun d => d.parameters.length) = some 3 := by decide +kernel
set_option maxHeartbeats 4000000 in
set_option maxRecDepth 100000 in
theorem c_X2_storeRow (l : Launch) (D : va_G) (Y : Nat → ClassId) (ad : OA) (t : OS) (k : Int32) (hok : oOK t) : Met l yX2_storeRow wsX2_storeRow ({ frames := 0, cells := 0, slots := 0, locals := 0 }) (rdPc D Y [.ref (oO ad), .int k] (oW Y ad t)) (va_Sr (fun ans => ans = pStore ad k) (fun a => Value.ref a)) 0 0 (fun _ => False) := by
  refine rdOf (cc := cX2_storeRow) (maxL := 2) (ret := (some (.object "ObjectRows$Row"))) (own := RX2) (by decide) rfl rfl (Nat.le_of_ble_eq_true rfl) ?_
  intro p e s m below meth c ls hx hb hr hts hown hml hlocks hP hK hl
  have iwX0 : ∀ w ∈ u_ws RX0 TX0 7, w ∈ wsX2_storeRow := fun _ h => List.mem_cons_of_mem _ (List.mem_append_right _ h)
  have iwX2 : ∀ w ∈ u_ws RX2 TX2 10, w ∈ wsX2_storeRow := fun _ h => List.mem_cons_of_mem _ (List.mem_append_left _ (List.mem_append_right _ h))
  have hl : lv_has ls 2 [(0, .ref (oO ad)), (1, .int k)] := hl
  refine lv_iload_n hx hb dX2_storeRow_0 rfl (lv_at hl 1 rfl) ?_
  refine lv_iconst (v := 4) hx hb dX2_storeRow_1 (by decide) ?_
  refine lv_icmp_ne (tgt := 12) hx hb dX2_storeRow_2 (by decide) (fun c1 => ?_) (fun c1 => ?_)
  · skip
    refine lv_aload_n hx hb dX2_storeRow_12 rfl (lv_at hl 0 rfl) ?_
    refine va_get (D := D) (ci := 3) (v := .ref (oNow ad)) (C := RX2) (T := TX2) (N := 10) hx hb hts iwX2 hown hK hP 0 rfl rfl 6 (by decide) (hts (.fieldLink RX2 34 "ObjectRows" "now" "LObjectRows$Changing;") (by decide +kernel)) (fun _ h9 => h9) rfl dX2_storeRow_13 ?_
    refine va_get (D := D) (ci := 1) (v := .ref (oH ad 11)) (C := RX0) (T := TX0) (N := 7) hx hb hts iwX0 hown hK hP 1 rfl rfl 5 (by decide) (hts (.fieldLink RX2 67 "ObjectRows$Changing" "elements" "LObjectRows$Row;") (by decide +kernel)) (fun _ h9 => h9) rfl dX2_storeRow_16 ?_
    exact reR hx hb hr hlocks dX2_storeRow_19 (by first | (simp only [pStore, c1, decide_true, decide_false, Bool.not_true, Bool.not_false, Bool.and_true, Bool.true_and, Bool.and_false, Bool.false_and, Bool.or_true, Bool.true_or, Bool.or_false, Bool.false_or, Bool.and_self, Bool.or_self, if_true, if_false, ite_true, ite_false, Bool.false_eq_true, reduceIte, not_true_eq_false, not_false_eq_true, and_true, true_and, and_false, false_and, or_true, true_or, or_false, false_or, and_self, or_self, eq_self, decide_eq_true_eq, Bool.true_eq_false, reduceCtorEq, ne_eq]; done) | (simp [pStore, c1]; done))
  · skip
    refine lv_aload_n hx hb dX2_storeRow_5 rfl (lv_at hl 0 rfl) ?_
    refine va_get (D := D) (ci := 3) (v := .ref (oH ad 5)) (C := RX2) (T := TX2) (N := 10) hx hb hts iwX2 hown hK hP 0 rfl rfl 5 (by decide) (hts (.fieldLink RX2 28 "ObjectRows" "bytes" "LObjectRows$Row;") (by decide +kernel)) (fun _ h9 => h9) rfl dX2_storeRow_6 ?_
    refine lv_goto (tgt := 19) hx hb dX2_storeRow_9 (by decide) ?_
    exact reR hx hb hr hlocks dX2_storeRow_19 (by first | (simp only [pStore, c1, decide_true, decide_false, Bool.not_true, Bool.not_false, Bool.and_true, Bool.true_and, Bool.and_false, Bool.false_and, Bool.or_true, Bool.true_or, Bool.or_false, Bool.false_or, Bool.and_self, Bool.or_self, if_true, if_false, ite_true, ite_false, Bool.false_eq_true, reduceIte, not_true_eq_false, not_false_eq_true, and_true, true_and, and_false, false_and, or_true, true_or, or_false, false_or, and_self, or_self, eq_self, decide_eq_true_eq, Bool.true_eq_false, reduceCtorEq, ne_eq]; done) | (simp [pStore, c1]; done) | (simp only [pStore, eq_true c1, decide_true, decide_false, Bool.not_true, Bool.not_false, Bool.and_true, Bool.true_and, Bool.and_false, Bool.false_and, Bool.or_true, Bool.true_or, Bool.or_false, Bool.false_or, Bool.and_self, Bool.or_self, if_true, if_false, ite_true, ite_false, Bool.false_eq_true, reduceIte, not_true_eq_false, not_false_eq_true, and_true, true_and, and_false, false_and, or_true, true_or, or_false, false_or, and_self, or_self, eq_self, decide_eq_true_eq, Bool.true_eq_false, reduceCtorEq, ne_eq]; done) | (simp [pStore, eq_true c1]; done))
theorem hdX2_storeRow : yX2_storeRow.cls = RX2 ∧ yX2_storeRow.cls ≠ "java/lang/invoke/MethodHandle" ∧ yX2_storeRow.cls ≠ "java/lang/invoke/VarHandle" ∧ (parseMethodDescriptor yX2_storeRow.desc).map (fun d => d.parameters.length) = some 1 := by decide +kernel
set_option maxHeartbeats 4000000 in
set_option maxRecDepth 100000 in
theorem c_X2_elementOf (l : Launch) (D : va_G) (Y : Nat → ClassId) (ad : OA) (t : OS) (x : Int32) (i : Int32) (hok : oOK t) : Met l yX2_elementOf wsX2_elementOf ({ frames := 1, cells := 0, slots := 0, locals := 21 }) (rdPc D Y [.ref (oO ad), .int x, .int i] (oW Y ad t)) (vp_Si (fun ans => ans = pEl t x i)) 0 0 (fun _ => False) := by
  refine rdOf (cc := cX2_elementOf) (maxL := 3) (ret := (some .int)) (own := RX2) (by decide) rfl rfl (Nat.le_of_ble_eq_true rfl) ?_
  intro p e s m below meth c ls hx hb hr hts hown hml hlocks hP hK hl
  have iwX2 : ∀ w ∈ u_ws RX2 TX2 10, w ∈ wsX2_elementOf := fun _ h => List.mem_cons_of_mem _ (List.mem_append_left _ (List.mem_append_left _ (List.mem_append_right _ h)))
  have hl : lv_has ls 3 [(0, .ref (oO ad)), (1, .int x), (2, .int i)] := hl
  refine lv_aload_n hx hb dX2_elementOf_0 rfl (lv_at hl 0 rfl) ?_
  refine lv_aload_n hx hb dX2_elementOf_1 rfl (lv_at hl 0 rfl) ?_
  refine va_get (D := D) (ci := 3) (v := .ref (oH ad 0)) (C := RX2) (T := TX2) (N := 10) hx hb hts iwX2 hown hK hP 0 rfl rfl 0 (by decide) (hts (.fieldLink RX2 12 "ObjectRows" "kinds" "LObjectRows$Row;") (by decide +kernel)) (fun _ h9 => h9) rfl dX2_elementOf_2 ?_
  refine lv_iload_n hx hb dX2_elementOf_5 rfl (lv_at hl 1 rfl) ?_
  refine rcI (As := [.int x]) (rest := [.ref (oO ad)]) ⟨hx, hb, hml, hown, hts⟩ (c_X1_at l D Y (oH ad 0) (oR t 0) x (hok 0 (by decide))) (cwV 1 hts gX2_elementOf_X1_at rfl rfl rfl hdX1_at ⟨Nat.le_of_ble_eq_true rfl, Nat.le_of_ble_eq_true rfl⟩) (oWr0 hP) hK 0 2 rfl rfl rfl hl.1 rfl (Nat.le_of_ble_eq_true rfl) dX2_elementOf_6 ⟨(Nat.zero_le _), (Nat.zero_le _)⟩ (fun r1 hr1 => ?_)
  obtain rfl : r1 = kd t x := hr1
  refine rcR (As := [.int (kd t x)]) (rest := []) ⟨hx, hb, hml, hown, hts⟩ (c_X2_storeRow l D Y ad t (kd t x) hok) (cwV 1 hts gX2_elementOf_X2_storeRow rfl rfl rfl hdX2_storeRow ⟨Nat.le_of_ble_eq_true rfl, Nat.le_of_ble_eq_true rfl⟩) hP hK 0 3 rfl rfl rfl hl.1 rfl (Nat.le_of_ble_eq_true rfl) dX2_elementOf_9 ⟨(Nat.zero_le _), (Nat.zero_le _)⟩ (fun r2 hr2 => ?_)
  obtain rfl : r2 = pStore ad (kd t x) := hr2
  by_cases c3 : kd t x = 4
  · rw [show pStore ad (kd t x) = oH ad 5 from if_pos c3]
    refine lv_aload_n hx hb dX2_elementOf_12 rfl (lv_at hl 0 rfl) ?_
    refine va_get (D := D) (ci := 3) (v := .ref (oH ad 3)) (C := RX2) (T := TX2) (N := 10) hx hb hts iwX2 hown hK hP 0 rfl rfl 3 (by decide) (hts (.fieldLink RX2 22 "ObjectRows" "starts" "LObjectRows$Row;") (by decide +kernel)) (fun _ h9 => h9) rfl dX2_elementOf_13 ?_
    refine lv_iload_n hx hb dX2_elementOf_16 rfl (lv_at hl 1 rfl) ?_
    refine rcI (As := [.int x]) (rest := [.ref (oH ad 5)]) ⟨hx, hb, hml, hown, hts⟩ (c_X1_at l D Y (oH ad 3) (oR t 3) x (hok 3 (by decide))) (cwV 1 hts gX2_elementOf_X1_at rfl rfl rfl hdX1_at ⟨Nat.le_of_ble_eq_true rfl, Nat.le_of_ble_eq_true rfl⟩) (oWr3 hP) hK 0 2 rfl rfl rfl hl.1 rfl (Nat.le_of_ble_eq_true rfl) dX2_elementOf_17 ⟨(Nat.zero_le _), (Nat.zero_le _)⟩ (fun r4 hr4 => ?_)
    obtain rfl : r4 = sta t x := hr4
    refine lv_iload_n hx hb dX2_elementOf_20 rfl (lv_at hl 2 rfl) ?_
    refine lv_iadd hx hb dX2_elementOf_21 ?_
    refine rcI (As := [.int ((sta t x) + i)]) (rest := []) ⟨hx, hb, hml, hown, hts⟩ (c_X1_at l D Y (oH ad 5) (oR t 5) ((sta t x) + i) (hok 5 (by decide))) (cwV 1 hts gX2_elementOf_X1_at rfl rfl rfl hdX1_at ⟨Nat.le_of_ble_eq_true rfl, Nat.le_of_ble_eq_true rfl⟩) (oWr5 hP) hK 0 2 rfl rfl rfl hl.1 rfl (Nat.le_of_ble_eq_true rfl) dX2_elementOf_22 ⟨(Nat.zero_le _), (Nat.zero_le _)⟩ (fun r5 hr5 => ?_)
    obtain rfl : r5 = rdB t ((sta t x) + i) := hr5
    exact reI hx hb hr hlocks dX2_elementOf_25 (by first | (simp only [pEl, c3, decide_true, decide_false, Bool.not_true, Bool.not_false, Bool.and_true, Bool.true_and, Bool.and_false, Bool.false_and, Bool.or_true, Bool.true_or, Bool.or_false, Bool.false_or, Bool.and_self, Bool.or_self, if_true, if_false, ite_true, ite_false, Bool.false_eq_true, reduceIte, not_true_eq_false, not_false_eq_true, and_true, true_and, and_false, false_and, or_true, true_or, or_false, false_or, and_self, or_self, eq_self, decide_eq_true_eq, Bool.true_eq_false, reduceCtorEq, ne_eq]; done) | (simp [pEl, c3]; done))
  · rw [show pStore ad (kd t x) = oH ad 11 from if_neg c3]
    refine lv_aload_n hx hb dX2_elementOf_12 rfl (lv_at hl 0 rfl) ?_
    refine va_get (D := D) (ci := 3) (v := .ref (oH ad 3)) (C := RX2) (T := TX2) (N := 10) hx hb hts iwX2 hown hK hP 0 rfl rfl 3 (by decide) (hts (.fieldLink RX2 22 "ObjectRows" "starts" "LObjectRows$Row;") (by decide +kernel)) (fun _ h9 => h9) rfl dX2_elementOf_13 ?_
    refine lv_iload_n hx hb dX2_elementOf_16 rfl (lv_at hl 1 rfl) ?_
    refine rcI (As := [.int x]) (rest := [.ref (oH ad 11)]) ⟨hx, hb, hml, hown, hts⟩ (c_X1_at l D Y (oH ad 3) (oR t 3) x (hok 3 (by decide))) (cwV 1 hts gX2_elementOf_X1_at rfl rfl rfl hdX1_at ⟨Nat.le_of_ble_eq_true rfl, Nat.le_of_ble_eq_true rfl⟩) (oWr3 hP) hK 0 2 rfl rfl rfl hl.1 rfl (Nat.le_of_ble_eq_true rfl) dX2_elementOf_17 ⟨(Nat.zero_le _), (Nat.zero_le _)⟩ (fun r6 hr6 => ?_)
    obtain rfl : r6 = sta t x := hr6
    refine lv_iload_n hx hb dX2_elementOf_20 rfl (lv_at hl 2 rfl) ?_
    refine lv_iadd hx hb dX2_elementOf_21 ?_
    refine rcI (As := [.int ((sta t x) + i)]) (rest := []) ⟨hx, hb, hml, hown, hts⟩ (c_X1_at l D Y (oH ad 11) (oR t 11) ((sta t x) + i) (hok 11 (by decide))) (cwV 1 hts gX2_elementOf_X1_at rfl rfl rfl hdX1_at ⟨Nat.le_of_ble_eq_true rfl, Nat.le_of_ble_eq_true rfl⟩) (oWr11 hP) hK 0 2 rfl rfl rfl hl.1 rfl (Nat.le_of_ble_eq_true rfl) dX2_elementOf_22 ⟨(Nat.zero_le _), (Nat.zero_le _)⟩ (fun r7 hr7 => ?_)
    obtain rfl : r7 = rdE t ((sta t x) + i) := hr7
    exact reI hx hb hr hlocks dX2_elementOf_25 (by first | (simp only [pEl, c3, decide_true, decide_false, Bool.not_true, Bool.not_false, Bool.and_true, Bool.true_and, Bool.and_false, Bool.false_and, Bool.or_true, Bool.true_or, Bool.or_false, Bool.false_or, Bool.and_self, Bool.or_self, if_true, if_false, ite_true, ite_false, Bool.false_eq_true, reduceIte, not_true_eq_false, not_false_eq_true, and_true, true_and, and_false, false_and, or_true, true_or, or_false, false_or, and_self, or_self, eq_self, decide_eq_true_eq, Bool.true_eq_false, reduceCtorEq, ne_eq]; done) | (simp [pEl, c3]; done))
theorem hdX2_elementOf : yX2_elementOf.cls = RX2 ∧ yX2_elementOf.cls ≠ "java/lang/invoke/MethodHandle" ∧ yX2_elementOf.cls ≠ "java/lang/invoke/VarHandle" ∧ (parseMethodDescriptor yX2_elementOf.desc).map (fun d => d.parameters.length) = some 2 := by decide +kernel
set_option maxHeartbeats 4000000 in
set_option maxRecDepth 100000 in
theorem c_X2_accessHolder (l : Launch) (D : va_G) (Y : Nat → ClassId) (ad : OA) (t : OS) (x : Int32) (hok : oOK t) : Met l yX2_accessHolder wsX2_accessHolder ({ frames := 1, cells := 0, slots := 0, locals := 21 }) (rdPc D Y [.ref (oO ad), .int x] (oW Y ad t)) (vp_Si (fun ans => ans = pHolder t x)) 0 0 (fun _ => False) := by
  refine rdOf (cc := cX2_accessHolder) (maxL := 2) (ret := (some .int)) (own := RX2) (by decide) rfl rfl (Nat.le_of_ble_eq_true rfl) ?_
  intro p e s m below meth c ls hx hb hr hts hown hml hlocks hP hK hl
  have iwX2 : ∀ w ∈ u_ws RX2 TX2 10, w ∈ wsX2_accessHolder := fun _ h => List.mem_cons_of_mem _ (List.mem_append_left _ (List.mem_append_right _ h))
  have hl : lv_has ls 2 [(0, .ref (oO ad)), (1, .int x)] := hl
  refine lv_aload_n hx hb dX2_accessHolder_0 rfl (lv_at hl 0 rfl) ?_
  refine va_get (D := D) (ci := 3) (v := .ref (oH ad 0)) (C := RX2) (T := TX2) (N := 10) hx hb hts iwX2 hown hK hP 0 rfl rfl 0 (by decide) (hts (.fieldLink RX2 12 "ObjectRows" "kinds" "LObjectRows$Row;") (by decide +kernel)) (fun _ h9 => h9) rfl dX2_accessHolder_1 ?_
  refine lv_iload_n hx hb dX2_accessHolder_4 rfl (lv_at hl 1 rfl) ?_
  refine rcI (As := [.int x]) (rest := []) ⟨hx, hb, hml, hown, hts⟩ (c_X1_at l D Y (oH ad 0) (oR t 0) x (hok 0 (by decide))) (cwV 1 hts gX2_accessHolder_X1_at rfl rfl rfl hdX1_at ⟨Nat.le_of_ble_eq_true rfl, Nat.le_of_ble_eq_true rfl⟩) (oWr0 hP) hK 0 2 rfl rfl rfl hl.1 rfl (Nat.le_of_ble_eq_true rfl) dX2_accessHolder_5 ⟨(Nat.zero_le _), (Nat.zero_le _)⟩ (fun r1 hr1 => ?_)
  obtain rfl : r1 = kd t x := hr1
  refine lv_bipush (v := 7) hx hb dX2_accessHolder_8 (by decide) ?_
  refine lv_icmp_ne (tgt := 24) hx hb dX2_accessHolder_10 (by decide) (fun c2 => ?_) (fun c2 => ?_)
  · skip
    refine lv_iload_n hx hb dX2_accessHolder_24 rfl (lv_at hl 1 rfl) ?_
    exact reI hx hb hr hlocks dX2_accessHolder_25 (by first | (simp only [pHolder, c2, decide_true, decide_false, Bool.not_true, Bool.not_false, Bool.and_true, Bool.true_and, Bool.and_false, Bool.false_and, Bool.or_true, Bool.true_or, Bool.or_false, Bool.false_or, Bool.and_self, Bool.or_self, if_true, if_false, ite_true, ite_false, Bool.false_eq_true, reduceIte, not_true_eq_false, not_false_eq_true, and_true, true_and, and_false, false_and, or_true, true_or, or_false, false_or, and_self, or_self, eq_self, decide_eq_true_eq, Bool.true_eq_false, reduceCtorEq, ne_eq]; done) | (simp [pHolder, c2]; done))
  · skip
    refine lv_aload_n hx hb dX2_accessHolder_13 rfl (lv_at hl 0 rfl) ?_
    refine va_get (D := D) (ci := 3) (v := .ref (oH ad 2)) (C := RX2) (T := TX2) (N := 10) hx hb hts iwX2 hown hK hP 0 rfl rfl 2 (by decide) (hts (.fieldLink RX2 19 "ObjectRows" "owners" "LObjectRows$Row;") (by decide +kernel)) (fun _ h9 => h9) rfl dX2_accessHolder_14 ?_
    refine lv_iload_n hx hb dX2_accessHolder_17 rfl (lv_at hl 1 rfl) ?_
    refine rcI (As := [.int x]) (rest := []) ⟨hx, hb, hml, hown, hts⟩ (c_X1_at l D Y (oH ad 2) (oR t 2) x (hok 2 (by decide))) (cwV 1 hts gX2_accessHolder_X1_at rfl rfl rfl hdX1_at ⟨Nat.le_of_ble_eq_true rfl, Nat.le_of_ble_eq_true rfl⟩) (oWr2 hP) hK 0 2 rfl rfl rfl hl.1 rfl (Nat.le_of_ble_eq_true rfl) dX2_accessHolder_18 ⟨(Nat.zero_le _), (Nat.zero_le _)⟩ (fun r3 hr3 => ?_)
    obtain rfl : r3 = ow t x := hr3
    refine lv_goto (tgt := 25) hx hb dX2_accessHolder_21 (by decide) ?_
    exact reI hx hb hr hlocks dX2_accessHolder_25 (by first | (simp only [pHolder, c2, decide_true, decide_false, Bool.not_true, Bool.not_false, Bool.and_true, Bool.true_and, Bool.and_false, Bool.false_and, Bool.or_true, Bool.true_or, Bool.or_false, Bool.false_or, Bool.and_self, Bool.or_self, if_true, if_false, ite_true, ite_false, Bool.false_eq_true, reduceIte, not_true_eq_false, not_false_eq_true, and_true, true_and, and_false, false_and, or_true, true_or, or_false, false_or, and_self, or_self, eq_self, decide_eq_true_eq, Bool.true_eq_false, reduceCtorEq, ne_eq]; done) | (simp [pHolder, c2]; done) | (simp only [pHolder, eq_true c2, decide_true, decide_false, Bool.not_true, Bool.not_false, Bool.and_true, Bool.true_and, Bool.and_false, Bool.false_and, Bool.or_true, Bool.true_or, Bool.or_false, Bool.false_or, Bool.and_self, Bool.or_self, if_true, if_false, ite_true, ite_false, Bool.false_eq_true, reduceIte, not_true_eq_false, not_false_eq_true, and_true, true_and, and_false, false_and, or_true, true_or, or_false, false_or, and_self, or_self, eq_self, decide_eq_true_eq, Bool.true_eq_false, reduceCtorEq, ne_eq]; done) | (simp [pHolder, eq_true c2]; done))
theorem hdX2_accessHolder : yX2_accessHolder.cls = RX2 ∧ yX2_accessHolder.cls ≠ "java/lang/invoke/MethodHandle" ∧ yX2_accessHolder.cls ≠ "java/lang/invoke/VarHandle" ∧ (parseMethodDescriptor yX2_accessHolder.desc).map (fun d => d.parameters.length) = some 1 := by decide +kernel
set_option maxHeartbeats 4000000 in
set_option maxRecDepth 100000 in
theorem c_X2_accessOf (l : Launch) (D : va_G) (Y : Nat → ClassId) (ad : OA) (t : OS) (x : Int32) (hok : oOK t) : Met l yX2_accessOf wsX2_accessOf ({ frames := 2, cells := 0, slots := 0, locals := 42 }) (rdPc D Y [.ref (oO ad), .int x] (oW Y ad t)) (vp_Si (fun ans => ans = pAcc t x)) 0 0 (fun _ => False) := by
  refine rdOf (cc := cX2_accessOf) (maxL := 2) (ret := (some .int)) (own := RX2) (by decide) rfl rfl (Nat.le_of_ble_eq_true rfl) ?_
  intro p e s m below meth c ls hx hb hr hts hown hml hlocks hP hK hl
  have iwX0 : ∀ w ∈ u_ws RX0 TX0 7, w ∈ wsX2_accessOf := fun _ h => List.mem_cons_of_mem _ (List.mem_append_left _ (List.mem_append_right _ h))
  have iwX2 : ∀ w ∈ u_ws RX2 TX2 10, w ∈ wsX2_accessOf := fun _ h => List.mem_cons_of_mem _ (List.mem_append_left _ (List.mem_append_left _ (List.mem_append_right _ h)))
  have hl : lv_has ls 2 [(0, .ref (oO ad)), (1, .int x)] := hl
  refine lv_aload_n hx hb dX2_accessOf_0 rfl (lv_at hl 0 rfl) ?_
  refine va_get (D := D) (ci := 3) (v := .ref (oNow ad)) (C := RX2) (T := TX2) (N := 10) hx hb hts iwX2 hown hK hP 0 rfl rfl 6 (by decide) (hts (.fieldLink RX2 34 "ObjectRows" "now" "LObjectRows$Changing;") (by decide +kernel)) (fun _ h9 => h9) rfl dX2_accessOf_1 ?_
  refine va_get (D := D) (ci := 1) (v := .ref (oH ad 7)) (C := RX0) (T := TX0) (N := 7) hx hb hts iwX0 hown hK hP 1 rfl rfl 1 (by decide) (hts (.fieldLink RX2 206 "ObjectRows$Changing" "accesses" "LObjectRows$Row;") (by decide +kernel)) (fun _ h9 => h9) rfl dX2_accessOf_4 ?_
  refine lv_aload_n hx hb dX2_accessOf_7 rfl (lv_at hl 0 rfl) ?_
  refine lv_iload_n hx hb dX2_accessOf_8 rfl (lv_at hl 1 rfl) ?_
  refine rcI (As := [.int x]) (rest := [.ref (oH ad 7)]) ⟨hx, hb, hml, hown, hts⟩ (c_X2_accessHolder l D Y ad t x hok) (cwV 1 hts gX2_accessOf_X2_accessHolder rfl rfl rfl hdX2_accessHolder ⟨Nat.le_of_ble_eq_true rfl, Nat.le_of_ble_eq_true rfl⟩) hP hK 0 3 rfl rfl rfl hl.1 rfl (Nat.le_of_ble_eq_true rfl) dX2_accessOf_9 ⟨(Nat.zero_le _), (Nat.zero_le _)⟩ (fun r1 hr1 => ?_)
  obtain rfl : r1 = pHolder t x := hr1
  refine rcI (As := [.int (pHolder t x)]) (rest := []) ⟨hx, hb, hml, hown, hts⟩ (c_X1_at l D Y (oH ad 7) (oR t 7) (pHolder t x) (hok 7 (by decide))) (cwV 1 hts gX2_accessOf_X1_at rfl rfl rfl hdX1_at ⟨Nat.le_of_ble_eq_true rfl, Nat.le_of_ble_eq_true rfl⟩) (oWr7 hP) hK 0 2 rfl rfl rfl hl.1 rfl (Nat.le_of_ble_eq_true rfl) dX2_accessOf_12 ⟨(Nat.zero_le _), (Nat.zero_le _)⟩ (fun r2 hr2 => ?_)
  obtain rfl : r2 = rdA t (pHolder t x) := hr2
  exact reI hx hb hr hlocks dX2_accessOf_15 (by first | (simp only [pAcc, decide_true, decide_false, Bool.not_true, Bool.not_false, Bool.and_true, Bool.true_and, Bool.and_false, Bool.false_and, Bool.or_true, Bool.true_or, Bool.or_false, Bool.false_or, Bool.and_self, Bool.or_self, if_true, if_false, ite_true, ite_false, Bool.false_eq_true, reduceIte, not_true_eq_false, not_false_eq_true, and_true, true_and, and_false, false_and, or_true, true_or, or_false, false_or, and_self, or_self, eq_self, decide_eq_true_eq, Bool.true_eq_false, reduceCtorEq, ne_eq]; done) | (simp [pAcc]; done))
theorem hdX2_accessOf : yX2_accessOf.cls = RX2 ∧ yX2_accessOf.cls ≠ "java/lang/invoke/MethodHandle" ∧ yX2_accessOf.cls ≠ "java/lang/invoke/VarHandle" ∧ (parseMethodDescriptor yX2_accessOf.desc).map (fun d => d.parameters.length) = some 1 := by decide +kernel
set_option maxHeartbeats 4000000 in
set_option maxRecDepth 100000 in
theorem c_X2_readableString (l : Launch) (D : va_G) (Y : Nat → ClassId) (ad : OA) (t : OS) (x : Int32) (hok : oOK t) : Met l yX2_readableString wsX2_readableString ({ frames := 3, cells := 0, slots := 0, locals := 63 }) (rdPc D Y [.ref (oO ad), .int x] (oW Y ad t)) (vp_Si (fun ans => ans = bI (pRStr t x))) 0 0 (fun _ => False) := by
  refine rdOf (cc := cX2_readableString) (maxL := 2) (ret := (some .boolean)) (own := RX2) (by decide) rfl rfl (Nat.le_of_ble_eq_true rfl) ?_
  intro p e s m below meth c ls hx hb hr hts hown hml hlocks hP hK hl
  have iwX2 : ∀ w ∈ u_ws RX2 TX2 10, w ∈ wsX2_readableString := fun _ h => List.mem_cons_of_mem _ (List.mem_append_left _ (List.mem_append_left _ (List.mem_append_right _ h)))
  have hl : lv_has ls 2 [(0, .ref (oO ad)), (1, .int x)] := hl
  refine lv_aload_n hx hb dX2_readableString_0 rfl (lv_at hl 0 rfl) ?_
  refine va_get (D := D) (ci := 3) (v := .ref (oH ad 0)) (C := RX2) (T := TX2) (N := 10) hx hb hts iwX2 hown hK hP 0 rfl rfl 0 (by decide) (hts (.fieldLink RX2 12 "ObjectRows" "kinds" "LObjectRows$Row;") (by decide +kernel)) (fun _ h9 => h9) rfl dX2_readableString_1 ?_
  refine lv_iload_n hx hb dX2_readableString_4 rfl (lv_at hl 1 rfl) ?_
  refine rcI (As := [.int x]) (rest := []) ⟨hx, hb, hml, hown, hts⟩ (c_X1_at l D Y (oH ad 0) (oR t 0) x (hok 0 (by decide))) (cwV 1 hts gX2_readableString_X1_at rfl rfl rfl hdX1_at ⟨Nat.le_of_ble_eq_true rfl, Nat.le_of_ble_eq_true rfl⟩) (oWr0 hP) hK 0 2 rfl rfl rfl hl.1 rfl (Nat.le_of_ble_eq_true rfl) dX2_readableString_5 ⟨(Nat.zero_le _), (Nat.zero_le _)⟩ (fun r1 hr1 => ?_)
  obtain rfl : r1 = kd t x := hr1
  refine lv_iconst (v := 4) hx hb dX2_readableString_8 (by decide) ?_
  refine lv_icmp_ne (tgt := 25) hx hb dX2_readableString_9 (by decide) (fun c2 => ?_) (fun c2 => ?_)
  · skip
    refine lv_iconst (v := 0) hx hb dX2_readableString_25 (by decide) ?_
    exact reZ hx hb hr hlocks dX2_readableString_26 (by first | exact Or.inl rfl | exact Or.inr rfl | exact bI_01 _ | (rename_i h9; rw [h9]; exact bI_01 _) | (subst_vars; exact bI_01 _)) (by first | (simp only [pRStr, bI, c2, decide_true, decide_false, Bool.not_true, Bool.not_false, Bool.and_true, Bool.true_and, Bool.and_false, Bool.false_and, Bool.or_true, Bool.true_or, Bool.or_false, Bool.false_or, Bool.and_self, Bool.or_self, if_true, if_false, ite_true, ite_false, Bool.false_eq_true, reduceIte, not_true_eq_false, not_false_eq_true, and_true, true_and, and_false, false_and, or_true, true_or, or_false, false_or, and_self, or_self, eq_self, decide_eq_true_eq, Bool.true_eq_false, reduceCtorEq, ne_eq]; done) | (simp [pRStr, bI, c2]; done))
  · skip
    refine lv_aload_n hx hb dX2_readableString_12 rfl (lv_at hl 0 rfl) ?_
    refine lv_iload_n hx hb dX2_readableString_13 rfl (lv_at hl 1 rfl) ?_
    refine rcI (As := [.int x]) (rest := []) ⟨hx, hb, hml, hown, hts⟩ (c_X2_accessOf l D Y ad t x hok) (cwV 1 hts gX2_readableString_X2_accessOf rfl rfl rfl hdX2_accessOf ⟨Nat.le_of_ble_eq_true rfl, Nat.le_of_ble_eq_true rfl⟩) hP hK 0 3 rfl rfl rfl hl.1 rfl (Nat.le_of_ble_eq_true rfl) dX2_readableString_14 ⟨(Nat.zero_le _), (Nat.zero_le _)⟩ (fun r3 hr3 => ?_)
    obtain rfl : r3 = pAcc t x := hr3
    refine lv_iconst (v := 2) hx hb dX2_readableString_17 (by decide) ?_
    refine lv_icmp_lt (tgt := 25) hx hb dX2_readableString_18 (by decide) (fun c4 => ?_) (fun c4 => ?_)
    · skip
      refine lv_iconst (v := 0) hx hb dX2_readableString_25 (by decide) ?_
      exact reZ hx hb hr hlocks dX2_readableString_26 (by first | exact Or.inl rfl | exact Or.inr rfl | exact bI_01 _ | (rename_i h9; rw [h9]; exact bI_01 _) | (subst_vars; exact bI_01 _)) (by first | (simp only [pRStr, bI, c2, c4, decide_true, decide_false, Bool.not_true, Bool.not_false, Bool.and_true, Bool.true_and, Bool.and_false, Bool.false_and, Bool.or_true, Bool.true_or, Bool.or_false, Bool.false_or, Bool.and_self, Bool.or_self, if_true, if_false, ite_true, ite_false, Bool.false_eq_true, reduceIte, not_true_eq_false, not_false_eq_true, and_true, true_and, and_false, false_and, or_true, true_or, or_false, false_or, and_self, or_self, eq_self, decide_eq_true_eq, Bool.true_eq_false, reduceCtorEq, ne_eq]; done) | (simp [pRStr, bI, c2, c4, Int32.not_le.mpr c4]; done) | (simp only [pRStr, bI, eq_true c2, c4, decide_true, decide_false, Bool.not_true, Bool.not_false, Bool.and_true, Bool.true_and, Bool.and_false, Bool.false_and, Bool.or_true, Bool.true_or, Bool.or_false, Bool.false_or, Bool.and_self, Bool.or_self, if_true, if_false, ite_true, ite_false, Bool.false_eq_true, reduceIte, not_true_eq_false, not_false_eq_true, and_true, true_and, and_false, false_and, or_true, true_or, or_false, false_or, and_self, or_self, eq_self, decide_eq_true_eq, Bool.true_eq_false, reduceCtorEq, ne_eq]; done) | (simp [pRStr, bI, eq_true c2, c4, Int32.not_le.mpr c4]; done))
    · skip
      refine lv_iconst (v := 1) hx hb dX2_readableString_21 (by decide) ?_
      refine lv_goto (tgt := 26) hx hb dX2_readableString_22 (by decide) ?_
      exact reZ hx hb hr hlocks dX2_readableString_26 (by first | exact Or.inl rfl | exact Or.inr rfl | exact bI_01 _ | (rename_i h9; rw [h9]; exact bI_01 _) | (subst_vars; exact bI_01 _)) (by first | (simp only [pRStr, bI, c2, c4, decide_true, decide_false, Bool.not_true, Bool.not_false, Bool.and_true, Bool.true_and, Bool.and_false, Bool.false_and, Bool.or_true, Bool.true_or, Bool.or_false, Bool.false_or, Bool.and_self, Bool.or_self, if_true, if_false, ite_true, ite_false, Bool.false_eq_true, reduceIte, not_true_eq_false, not_false_eq_true, and_true, true_and, and_false, false_and, or_true, true_or, or_false, false_or, and_self, or_self, eq_self, decide_eq_true_eq, Bool.true_eq_false, reduceCtorEq, ne_eq]; done) | (simp [pRStr, bI, c2, c4, Int32.not_lt.mp c4]; done) | (simp only [pRStr, bI, eq_true c2, c4, decide_true, decide_false, Bool.not_true, Bool.not_false, Bool.and_true, Bool.true_and, Bool.and_false, Bool.false_and, Bool.or_true, Bool.true_or, Bool.or_false, Bool.false_or, Bool.and_self, Bool.or_self, if_true, if_false, ite_true, ite_false, Bool.false_eq_true, reduceIte, not_true_eq_false, not_false_eq_true, and_true, true_and, and_false, false_and, or_true, true_or, or_false, false_or, and_self, or_self, eq_self, decide_eq_true_eq, Bool.true_eq_false, reduceCtorEq, ne_eq]; done) | (simp [pRStr, bI, eq_true c2, c4, Int32.not_lt.mp c4]; done))
theorem hdX2_readableString : yX2_readableString.cls = RX2 ∧ yX2_readableString.cls ≠ "java/lang/invoke/MethodHandle" ∧ yX2_readableString.cls ≠ "java/lang/invoke/VarHandle" ∧ (parseMethodDescriptor yX2_readableString.desc).map (fun d => d.parameters.length) = some 1 := by decide +kernel
set_option maxHeartbeats 4000000 in
set_option maxRecDepth 100000 in
theorem c_X2_alikeOfKind (l : Launch) (D : va_G) (Y : Nat → ClassId) (ad : OA) (t : OS) (k : Int32) (a : Int32) (b : Int32) (hok : oOK t) : Met l yX2_alikeOfKind wsX2_alikeOfKind ({ frames := 1, cells := 0, slots := 0, locals := 21 }) (rdPc D Y [.ref (oO ad), .int k, .int a, .int b] (oW Y ad t)) (vp_Si (fun ans => ans = bI (pAlikeK t k a b))) 0 0 (fun _ => False) := by
  refine rdOf (cc := cX2_alikeOfKind) (maxL := 4) (ret := (some .boolean)) (own := RX2) (by decide) rfl rfl (Nat.le_of_ble_eq_true rfl) ?_
  intro p e s m below meth c ls hx hb hr hts hown hml hlocks hP hK hl
  have iwX2 : ∀ w ∈ u_ws RX2 TX2 10, w ∈ wsX2_alikeOfKind := fun _ h => List.mem_cons_of_mem _ (List.mem_append_left _ (List.mem_append_right _ h))
  have hl : lv_has ls 4 [(0, .ref (oO ad)), (1, .int k), (2, .int a), (3, .int b)] := hl
  refine lv_iload_n hx hb dX2_alikeOfKind_0 rfl (lv_at hl 1 rfl) ?_
  by_cases c1 : k = 0 ∨ k = 8
  · refine lv_tableIn (off := 63) (tgt := 64) hx hb dX2_alikeOfKind_1 (by rcases c1 with c1 | c1 <;> rw [c1] <;> decide) (by rcases c1 with c1 | c1 <;> rw [c1] <;> decide) (by rcases c1 with c1 | c1 <;> rw [c1] <;> decide) (by decide) ?_
    refine lv_iconst (v := 1) hx hb dX2_alikeOfKind_64 (by decide) ?_
    exact reZ hx hb hr hlocks dX2_alikeOfKind_65 (by first | exact Or.inl rfl | exact Or.inr rfl | exact bI_01 _ | (rename_i h9; rw [h9]; exact bI_01 _) | (subst_vars; exact bI_01 _)) (by first | (simp only [pAlikeK, bI, c1, decide_true, decide_false, Bool.not_true, Bool.not_false, Bool.and_true, Bool.true_and, Bool.and_false, Bool.false_and, Bool.or_true, Bool.true_or, Bool.or_false, Bool.false_or, Bool.and_self, Bool.or_self, if_true, if_false, ite_true, ite_false, Bool.false_eq_true, reduceIte, not_true_eq_false, not_false_eq_true, and_true, true_and, and_false, false_and, or_true, true_or, or_false, false_or, and_self, or_self, eq_self, decide_eq_true_eq, Bool.true_eq_false, reduceCtorEq, ne_eq]; done) | (simp [pAlikeK, bI, c1]; done))
  by_cases c2 : k = 5 ∨ k = 6
  · refine lv_tableIn (off := 65) (tgt := 66) hx hb dX2_alikeOfKind_1 (by rcases c2 with c2 | c2 <;> rw [c2] <;> decide) (by rcases c2 with c2 | c2 <;> rw [c2] <;> decide) (by rcases c2 with c2 | c2 <;> rw [c2] <;> decide) (by decide) ?_
    refine lv_aload_n hx hb dX2_alikeOfKind_66 rfl (lv_at hl 0 rfl) ?_
    refine va_get (D := D) (ci := 3) (v := .ref (oH ad 2)) (C := RX2) (T := TX2) (N := 10) hx hb hts iwX2 hown hK hP 0 rfl rfl 2 (by decide) (hts (.fieldLink RX2 19 "ObjectRows" "owners" "LObjectRows$Row;") (by decide +kernel)) (fun _ h9 => h9) rfl dX2_alikeOfKind_67 ?_
    refine lv_iload_n hx hb dX2_alikeOfKind_70 rfl (lv_at hl 2 rfl) ?_
    refine rcI (As := [.int a]) (rest := []) ⟨hx, hb, hml, hown, hts⟩ (c_X1_at l D Y (oH ad 2) (oR t 2) a (hok 2 (by decide))) (cwV 1 hts gX2_alikeOfKind_X1_at rfl rfl rfl hdX1_at ⟨Nat.le_of_ble_eq_true rfl, Nat.le_of_ble_eq_true rfl⟩) (oWr2 hP) hK 0 2 rfl rfl rfl hl.1 rfl (Nat.le_of_ble_eq_true rfl) dX2_alikeOfKind_71 ⟨(Nat.zero_le _), (Nat.zero_le _)⟩ (fun r3 hr3 => ?_)
    obtain rfl : r3 = ow t a := hr3
    refine lv_aload_n hx hb dX2_alikeOfKind_74 rfl (lv_at hl 0 rfl) ?_
    refine va_get (D := D) (ci := 3) (v := .ref (oH ad 2)) (C := RX2) (T := TX2) (N := 10) hx hb hts iwX2 hown hK hP 0 rfl rfl 2 (by decide) (hts (.fieldLink RX2 19 "ObjectRows" "owners" "LObjectRows$Row;") (by decide +kernel)) (fun _ h9 => h9) rfl dX2_alikeOfKind_75 ?_
    refine lv_iload_n hx hb dX2_alikeOfKind_78 rfl (lv_at hl 3 rfl) ?_
    refine rcI (As := [.int b]) (rest := [.int (ow t a)]) ⟨hx, hb, hml, hown, hts⟩ (c_X1_at l D Y (oH ad 2) (oR t 2) b (hok 2 (by decide))) (cwV 1 hts gX2_alikeOfKind_X1_at rfl rfl rfl hdX1_at ⟨Nat.le_of_ble_eq_true rfl, Nat.le_of_ble_eq_true rfl⟩) (oWr2 hP) hK 0 2 rfl rfl rfl hl.1 rfl (Nat.le_of_ble_eq_true rfl) dX2_alikeOfKind_79 ⟨(Nat.zero_le _), (Nat.zero_le _)⟩ (fun r4 hr4 => ?_)
    obtain rfl : r4 = ow t b := hr4
    refine lv_icmp_ne (tgt := 127) hx hb dX2_alikeOfKind_82 (by decide) (fun c5 => ?_) (fun c5 => ?_)
    · skip
      refine lv_iconst (v := 0) hx hb dX2_alikeOfKind_127 (by decide) ?_
      exact reZ hx hb hr hlocks dX2_alikeOfKind_128 (by first | exact Or.inl rfl | exact Or.inr rfl | exact bI_01 _ | (rename_i h9; rw [h9]; exact bI_01 _) | (subst_vars; exact bI_01 _)) (by first | (simp only [pAlikeK, bI, c1, c2, c5, decide_true, decide_false, Bool.not_true, Bool.not_false, Bool.and_true, Bool.true_and, Bool.and_false, Bool.false_and, Bool.or_true, Bool.true_or, Bool.or_false, Bool.false_or, Bool.and_self, Bool.or_self, if_true, if_false, ite_true, ite_false, Bool.false_eq_true, reduceIte, not_true_eq_false, not_false_eq_true, and_true, true_and, and_false, false_and, or_true, true_or, or_false, false_or, and_self, or_self, eq_self, decide_eq_true_eq, Bool.true_eq_false, reduceCtorEq, ne_eq]; done) | (simp [pAlikeK, bI, c1, c2, c5]; done))
    · skip
      refine lv_aload_n hx hb dX2_alikeOfKind_85 rfl (lv_at hl 0 rfl) ?_
      refine va_get (D := D) (ci := 3) (v := .ref (oH ad 3)) (C := RX2) (T := TX2) (N := 10) hx hb hts iwX2 hown hK hP 0 rfl rfl 3 (by decide) (hts (.fieldLink RX2 22 "ObjectRows" "starts" "LObjectRows$Row;") (by decide +kernel)) (fun _ h9 => h9) rfl dX2_alikeOfKind_86 ?_
      refine lv_iload_n hx hb dX2_alikeOfKind_89 rfl (lv_at hl 2 rfl) ?_
      refine rcI (As := [.int a]) (rest := []) ⟨hx, hb, hml, hown, hts⟩ (c_X1_at l D Y (oH ad 3) (oR t 3) a (hok 3 (by decide))) (cwV 1 hts gX2_alikeOfKind_X1_at rfl rfl rfl hdX1_at ⟨Nat.le_of_ble_eq_true rfl, Nat.le_of_ble_eq_true rfl⟩) (oWr3 hP) hK 0 2 rfl rfl rfl hl.1 rfl (Nat.le_of_ble_eq_true rfl) dX2_alikeOfKind_90 ⟨(Nat.zero_le _), (Nat.zero_le _)⟩ (fun r6 hr6 => ?_)
      obtain rfl : r6 = sta t a := hr6
      refine lv_aload_n hx hb dX2_alikeOfKind_93 rfl (lv_at hl 0 rfl) ?_
      refine va_get (D := D) (ci := 3) (v := .ref (oH ad 3)) (C := RX2) (T := TX2) (N := 10) hx hb hts iwX2 hown hK hP 0 rfl rfl 3 (by decide) (hts (.fieldLink RX2 22 "ObjectRows" "starts" "LObjectRows$Row;") (by decide +kernel)) (fun _ h9 => h9) rfl dX2_alikeOfKind_94 ?_
      refine lv_iload_n hx hb dX2_alikeOfKind_97 rfl (lv_at hl 3 rfl) ?_
      refine rcI (As := [.int b]) (rest := [.int (sta t a)]) ⟨hx, hb, hml, hown, hts⟩ (c_X1_at l D Y (oH ad 3) (oR t 3) b (hok 3 (by decide))) (cwV 1 hts gX2_alikeOfKind_X1_at rfl rfl rfl hdX1_at ⟨Nat.le_of_ble_eq_true rfl, Nat.le_of_ble_eq_true rfl⟩) (oWr3 hP) hK 0 2 rfl rfl rfl hl.1 rfl (Nat.le_of_ble_eq_true rfl) dX2_alikeOfKind_98 ⟨(Nat.zero_le _), (Nat.zero_le _)⟩ (fun r7 hr7 => ?_)
      obtain rfl : r7 = sta t b := hr7
      refine lv_icmp_ne (tgt := 127) hx hb dX2_alikeOfKind_101 (by decide) (fun c8 => ?_) (fun c8 => ?_)
      · skip
        refine lv_iconst (v := 0) hx hb dX2_alikeOfKind_127 (by decide) ?_
        exact reZ hx hb hr hlocks dX2_alikeOfKind_128 (by first | exact Or.inl rfl | exact Or.inr rfl | exact bI_01 _ | (rename_i h9; rw [h9]; exact bI_01 _) | (subst_vars; exact bI_01 _)) (by first | (simp only [pAlikeK, bI, c1, c2, eq_true c5, c8, decide_true, decide_false, Bool.not_true, Bool.not_false, Bool.and_true, Bool.true_and, Bool.and_false, Bool.false_and, Bool.or_true, Bool.true_or, Bool.or_false, Bool.false_or, Bool.and_self, Bool.or_self, if_true, if_false, ite_true, ite_false, Bool.false_eq_true, reduceIte, not_true_eq_false, not_false_eq_true, and_true, true_and, and_false, false_and, or_true, true_or, or_false, false_or, and_self, or_self, eq_self, decide_eq_true_eq, Bool.true_eq_false, reduceCtorEq, ne_eq]; done) | (simp [pAlikeK, bI, c1, c2, eq_true c5, c8]; done))
      · skip
        refine lv_aload_n hx hb dX2_alikeOfKind_104 rfl (lv_at hl 0 rfl) ?_
        refine va_get (D := D) (ci := 3) (v := .ref (oH ad 4)) (C := RX2) (T := TX2) (N := 10) hx hb hts iwX2 hown hK hP 0 rfl rfl 4 (by decide) (hts (.fieldLink RX2 25 "ObjectRows" "lengths" "LObjectRows$Row;") (by decide +kernel)) (fun _ h9 => h9) rfl dX2_alikeOfKind_105 ?_
        refine lv_iload_n hx hb dX2_alikeOfKind_108 rfl (lv_at hl 2 rfl) ?_
        refine rcI (As := [.int a]) (rest := []) ⟨hx, hb, hml, hown, hts⟩ (c_X1_at l D Y (oH ad 4) (oR t 4) a (hok 4 (by decide))) (cwV 1 hts gX2_alikeOfKind_X1_at rfl rfl rfl hdX1_at ⟨Nat.le_of_ble_eq_true rfl, Nat.le_of_ble_eq_true rfl⟩) (oWr4 hP) hK 0 2 rfl rfl rfl hl.1 rfl (Nat.le_of_ble_eq_true rfl) dX2_alikeOfKind_109 ⟨(Nat.zero_le _), (Nat.zero_le _)⟩ (fun r9 hr9 => ?_)
        obtain rfl : r9 = len t a := hr9
        refine lv_aload_n hx hb dX2_alikeOfKind_112 rfl (lv_at hl 0 rfl) ?_
        refine va_get (D := D) (ci := 3) (v := .ref (oH ad 4)) (C := RX2) (T := TX2) (N := 10) hx hb hts iwX2 hown hK hP 0 rfl rfl 4 (by decide) (hts (.fieldLink RX2 25 "ObjectRows" "lengths" "LObjectRows$Row;") (by decide +kernel)) (fun _ h9 => h9) rfl dX2_alikeOfKind_113 ?_
        refine lv_iload_n hx hb dX2_alikeOfKind_116 rfl (lv_at hl 3 rfl) ?_
        refine rcI (As := [.int b]) (rest := [.int (len t a)]) ⟨hx, hb, hml, hown, hts⟩ (c_X1_at l D Y (oH ad 4) (oR t 4) b (hok 4 (by decide))) (cwV 1 hts gX2_alikeOfKind_X1_at rfl rfl rfl hdX1_at ⟨Nat.le_of_ble_eq_true rfl, Nat.le_of_ble_eq_true rfl⟩) (oWr4 hP) hK 0 2 rfl rfl rfl hl.1 rfl (Nat.le_of_ble_eq_true rfl) dX2_alikeOfKind_117 ⟨(Nat.zero_le _), (Nat.zero_le _)⟩ (fun r10 hr10 => ?_)
        obtain rfl : r10 = len t b := hr10
        refine lv_icmp_ne (tgt := 127) hx hb dX2_alikeOfKind_120 (by decide) (fun c11 => ?_) (fun c11 => ?_)
        · skip
          refine lv_iconst (v := 0) hx hb dX2_alikeOfKind_127 (by decide) ?_
          exact reZ hx hb hr hlocks dX2_alikeOfKind_128 (by first | exact Or.inl rfl | exact Or.inr rfl | exact bI_01 _ | (rename_i h9; rw [h9]; exact bI_01 _) | (subst_vars; exact bI_01 _)) (by first | (simp only [pAlikeK, bI, c1, c2, eq_true c5, eq_true c8, c11, decide_true, decide_false, Bool.not_true, Bool.not_false, Bool.and_true, Bool.true_and, Bool.and_false, Bool.false_and, Bool.or_true, Bool.true_or, Bool.or_false, Bool.false_or, Bool.and_self, Bool.or_self, if_true, if_false, ite_true, ite_false, Bool.false_eq_true, reduceIte, not_true_eq_false, not_false_eq_true, and_true, true_and, and_false, false_and, or_true, true_or, or_false, false_or, and_self, or_self, eq_self, decide_eq_true_eq, Bool.true_eq_false, reduceCtorEq, ne_eq]; done) | (simp [pAlikeK, bI, c1, c2, eq_true c5, eq_true c8, c11]; done))
        · skip
          refine lv_iconst (v := 1) hx hb dX2_alikeOfKind_123 (by decide) ?_
          refine lv_goto (tgt := 128) hx hb dX2_alikeOfKind_124 (by decide) ?_
          exact reZ hx hb hr hlocks dX2_alikeOfKind_128 (by first | exact Or.inl rfl | exact Or.inr rfl | exact bI_01 _ | (rename_i h9; rw [h9]; exact bI_01 _) | (subst_vars; exact bI_01 _)) (by first | (simp only [pAlikeK, bI, c1, c2, eq_true c5, eq_true c8, eq_true c11, decide_true, decide_false, Bool.not_true, Bool.not_false, Bool.and_true, Bool.true_and, Bool.and_false, Bool.false_and, Bool.or_true, Bool.true_or, Bool.or_false, Bool.false_or, Bool.and_self, Bool.or_self, if_true, if_false, ite_true, ite_false, Bool.false_eq_true, reduceIte, not_true_eq_false, not_false_eq_true, and_true, true_and, and_false, false_and, or_true, true_or, or_false, false_or, and_self, or_self, eq_self, decide_eq_true_eq, Bool.true_eq_false, reduceCtorEq, ne_eq]; done) | (simp [pAlikeK, bI, c1, c2, eq_true c5, eq_true c8, eq_true c11]; done))
  by_cases c12 : k = 7
  · refine lv_tableIn (off := 128) (tgt := 129) hx hb dX2_alikeOfKind_1 (by rw [c12]; decide) (by rw [c12]; decide) (by rw [c12]; decide) (by decide) ?_
    refine lv_aload_n hx hb dX2_alikeOfKind_129 rfl (lv_at hl 0 rfl) ?_
    refine va_get (D := D) (ci := 3) (v := .ref (oH ad 2)) (C := RX2) (T := TX2) (N := 10) hx hb hts iwX2 hown hK hP 0 rfl rfl 2 (by decide) (hts (.fieldLink RX2 19 "ObjectRows" "owners" "LObjectRows$Row;") (by decide +kernel)) (fun _ h9 => h9) rfl dX2_alikeOfKind_130 ?_
    refine lv_iload_n hx hb dX2_alikeOfKind_133 rfl (lv_at hl 2 rfl) ?_
    refine rcI (As := [.int a]) (rest := []) ⟨hx, hb, hml, hown, hts⟩ (c_X1_at l D Y (oH ad 2) (oR t 2) a (hok 2 (by decide))) (cwV 1 hts gX2_alikeOfKind_X1_at rfl rfl rfl hdX1_at ⟨Nat.le_of_ble_eq_true rfl, Nat.le_of_ble_eq_true rfl⟩) (oWr2 hP) hK 0 2 rfl rfl rfl hl.1 rfl (Nat.le_of_ble_eq_true rfl) dX2_alikeOfKind_134 ⟨(Nat.zero_le _), (Nat.zero_le _)⟩ (fun r13 hr13 => ?_)
    obtain rfl : r13 = ow t a := hr13
    refine lv_aload_n hx hb dX2_alikeOfKind_137 rfl (lv_at hl 0 rfl) ?_
    refine va_get (D := D) (ci := 3) (v := .ref (oH ad 2)) (C := RX2) (T := TX2) (N := 10) hx hb hts iwX2 hown hK hP 0 rfl rfl 2 (by decide) (hts (.fieldLink RX2 19 "ObjectRows" "owners" "LObjectRows$Row;") (by decide +kernel)) (fun _ h9 => h9) rfl dX2_alikeOfKind_138 ?_
    refine lv_iload_n hx hb dX2_alikeOfKind_141 rfl (lv_at hl 3 rfl) ?_
    refine rcI (As := [.int b]) (rest := [.int (ow t a)]) ⟨hx, hb, hml, hown, hts⟩ (c_X1_at l D Y (oH ad 2) (oR t 2) b (hok 2 (by decide))) (cwV 1 hts gX2_alikeOfKind_X1_at rfl rfl rfl hdX1_at ⟨Nat.le_of_ble_eq_true rfl, Nat.le_of_ble_eq_true rfl⟩) (oWr2 hP) hK 0 2 rfl rfl rfl hl.1 rfl (Nat.le_of_ble_eq_true rfl) dX2_alikeOfKind_142 ⟨(Nat.zero_le _), (Nat.zero_le _)⟩ (fun r14 hr14 => ?_)
    obtain rfl : r14 = ow t b := hr14
    refine lv_icmp_ne (tgt := 152) hx hb dX2_alikeOfKind_145 (by decide) (fun c15 => ?_) (fun c15 => ?_)
    · skip
      refine lv_iconst (v := 0) hx hb dX2_alikeOfKind_152 (by decide) ?_
      exact reZ hx hb hr hlocks dX2_alikeOfKind_153 (by first | exact Or.inl rfl | exact Or.inr rfl | exact bI_01 _ | (rename_i h9; rw [h9]; exact bI_01 _) | (subst_vars; exact bI_01 _)) (by first | (simp only [pAlikeK, bI, c1, c2, c12, c15, decide_true, decide_false, Bool.not_true, Bool.not_false, Bool.and_true, Bool.true_and, Bool.and_false, Bool.false_and, Bool.or_true, Bool.true_or, Bool.or_false, Bool.false_or, Bool.and_self, Bool.or_self, if_true, if_false, ite_true, ite_false, Bool.false_eq_true, reduceIte, not_true_eq_false, not_false_eq_true, and_true, true_and, and_false, false_and, or_true, true_or, or_false, false_or, and_self, or_self, eq_self, decide_eq_true_eq, Bool.true_eq_false, reduceCtorEq, ne_eq]; done) | (simp [pAlikeK, bI, c1, c2, c12, c15]; done))
    · skip
      refine lv_iconst (v := 1) hx hb dX2_alikeOfKind_148 (by decide) ?_
      refine lv_goto (tgt := 153) hx hb dX2_alikeOfKind_149 (by decide) ?_
      exact reZ hx hb hr hlocks dX2_alikeOfKind_153 (by first | exact Or.inl rfl | exact Or.inr rfl | exact bI_01 _ | (rename_i h9; rw [h9]; exact bI_01 _) | (subst_vars; exact bI_01 _)) (by first | (simp only [pAlikeK, bI, c1, c2, c12, eq_true c15, decide_true, decide_false, Bool.not_true, Bool.not_false, Bool.and_true, Bool.true_and, Bool.and_false, Bool.false_and, Bool.or_true, Bool.true_or, Bool.or_false, Bool.false_or, Bool.and_self, Bool.or_self, if_true, if_false, ite_true, ite_false, Bool.false_eq_true, reduceIte, not_true_eq_false, not_false_eq_true, and_true, true_and, and_false, false_and, or_true, true_or, or_false, false_or, and_self, or_self, eq_self, decide_eq_true_eq, Bool.true_eq_false, reduceCtorEq, ne_eq]; done) | (simp [pAlikeK, bI, c1, c2, c12, eq_true c15]; done))
  by_cases c16 : k = 11
  · refine lv_tableIn (off := 153) (tgt := 154) hx hb dX2_alikeOfKind_1 (by rw [c16]; decide) (by rw [c16]; decide) (by rw [c16]; decide) (by decide) ?_
    refine lv_iload_n hx hb dX2_alikeOfKind_154 rfl (lv_at hl 2 rfl) ?_
    refine lv_iload_n hx hb dX2_alikeOfKind_155 rfl (lv_at hl 3 rfl) ?_
    refine lv_icmp_ne (tgt := 163) hx hb dX2_alikeOfKind_156 (by decide) (fun c17 => ?_) (fun c17 => ?_)
    · skip
      refine lv_iconst (v := 0) hx hb dX2_alikeOfKind_163 (by decide) ?_
      exact reZ hx hb hr hlocks dX2_alikeOfKind_164 (by first | exact Or.inl rfl | exact Or.inr rfl | exact bI_01 _ | (rename_i h9; rw [h9]; exact bI_01 _) | (subst_vars; exact bI_01 _)) (by first | (simp only [pAlikeK, bI, c1, c2, c12, c16, c17, decide_true, decide_false, Bool.not_true, Bool.not_false, Bool.and_true, Bool.true_and, Bool.and_false, Bool.false_and, Bool.or_true, Bool.true_or, Bool.or_false, Bool.false_or, Bool.and_self, Bool.or_self, if_true, if_false, ite_true, ite_false, Bool.false_eq_true, reduceIte, not_true_eq_false, not_false_eq_true, and_true, true_and, and_false, false_and, or_true, true_or, or_false, false_or, and_self, or_self, eq_self, decide_eq_true_eq, Bool.true_eq_false, reduceCtorEq, ne_eq]; done) | (simp [pAlikeK, bI, c1, c2, c12, c16, c17]; done))
    · skip
      refine lv_iconst (v := 1) hx hb dX2_alikeOfKind_159 (by decide) ?_
      refine lv_goto (tgt := 164) hx hb dX2_alikeOfKind_160 (by decide) ?_
      exact reZ hx hb hr hlocks dX2_alikeOfKind_164 (by first | exact Or.inl rfl | exact Or.inr rfl | exact bI_01 _ | (rename_i h9; rw [h9]; exact bI_01 _) | (subst_vars; exact bI_01 _)) (by first | (simp only [pAlikeK, bI, c1, c2, c12, c16, eq_true c17, decide_true, decide_false, Bool.not_true, Bool.not_false, Bool.and_true, Bool.true_and, Bool.and_false, Bool.false_and, Bool.or_true, Bool.true_or, Bool.or_false, Bool.false_or, Bool.and_self, Bool.or_self, if_true, if_false, ite_true, ite_false, Bool.false_eq_true, reduceIte, not_true_eq_false, not_false_eq_true, and_true, true_and, and_false, false_and, or_true, true_or, or_false, false_or, and_self, or_self, eq_self, decide_eq_true_eq, Bool.true_eq_false, reduceCtorEq, ne_eq]; done) | (simp [pAlikeK, bI, c1, c2, c12, c16, eq_true c17]; done))
  refine lv_tableD (tgt := 165) hx hb dX2_alikeOfKind_1 (tblD (ks := [0, 8, 5, 6, 7, 11]) (by decide) (List.forall_mem_cons.mpr ⟨neI (fun h9 => c1 (Or.inl h9)) (by decide), (List.forall_mem_cons.mpr ⟨neI (fun h9 => c1 (Or.inr (h9))) (by decide), (List.forall_mem_cons.mpr ⟨neI (fun h9 => c2 (Or.inl h9)) (by decide), (List.forall_mem_cons.mpr ⟨neI (fun h9 => c2 (Or.inr (h9))) (by decide), (List.forall_mem_cons.mpr ⟨neI c12 (by decide), (List.forall_mem_cons.mpr ⟨neI c16 (by decide), (fun _ h => absurd h List.not_mem_nil)⟩)⟩)⟩)⟩)⟩)⟩) (by decide)) (by decide) ?_
  refine lv_aload_n hx hb dX2_alikeOfKind_165 rfl (lv_at hl 0 rfl) ?_
  refine va_get (D := D) (ci := 3) (v := .ref (oH ad 1)) (C := RX2) (T := TX2) (N := 10) hx hb hts iwX2 hown hK hP 0 rfl rfl 1 (by decide) (hts (.fieldLink RX2 16 "ObjectRows" "numbers" "LObjectRows$Row;") (by decide +kernel)) (fun _ h9 => h9) rfl dX2_alikeOfKind_166 ?_
  refine lv_iload_n hx hb dX2_alikeOfKind_169 rfl (lv_at hl 2 rfl) ?_
  refine rcI (As := [.int a]) (rest := []) ⟨hx, hb, hml, hown, hts⟩ (c_X1_at l D Y (oH ad 1) (oR t 1) a (hok 1 (by decide))) (cwV 1 hts gX2_alikeOfKind_X1_at rfl rfl rfl hdX1_at ⟨Nat.le_of_ble_eq_true rfl, Nat.le_of_ble_eq_true rfl⟩) (oWr1 hP) hK 0 2 rfl rfl rfl hl.1 rfl (Nat.le_of_ble_eq_true rfl) dX2_alikeOfKind_170 ⟨(Nat.zero_le _), (Nat.zero_le _)⟩ (fun r18 hr18 => ?_)
  obtain rfl : r18 = nu t a := hr18
  refine lv_aload_n hx hb dX2_alikeOfKind_173 rfl (lv_at hl 0 rfl) ?_
  refine va_get (D := D) (ci := 3) (v := .ref (oH ad 1)) (C := RX2) (T := TX2) (N := 10) hx hb hts iwX2 hown hK hP 0 rfl rfl 1 (by decide) (hts (.fieldLink RX2 16 "ObjectRows" "numbers" "LObjectRows$Row;") (by decide +kernel)) (fun _ h9 => h9) rfl dX2_alikeOfKind_174 ?_
  refine lv_iload_n hx hb dX2_alikeOfKind_177 rfl (lv_at hl 3 rfl) ?_
  refine rcI (As := [.int b]) (rest := [.int (nu t a)]) ⟨hx, hb, hml, hown, hts⟩ (c_X1_at l D Y (oH ad 1) (oR t 1) b (hok 1 (by decide))) (cwV 1 hts gX2_alikeOfKind_X1_at rfl rfl rfl hdX1_at ⟨Nat.le_of_ble_eq_true rfl, Nat.le_of_ble_eq_true rfl⟩) (oWr1 hP) hK 0 2 rfl rfl rfl hl.1 rfl (Nat.le_of_ble_eq_true rfl) dX2_alikeOfKind_178 ⟨(Nat.zero_le _), (Nat.zero_le _)⟩ (fun r19 hr19 => ?_)
  obtain rfl : r19 = nu t b := hr19
  refine lv_icmp_ne (tgt := 188) hx hb dX2_alikeOfKind_181 (by decide) (fun c20 => ?_) (fun c20 => ?_)
  · skip
    refine lv_iconst (v := 0) hx hb dX2_alikeOfKind_188 (by decide) ?_
    exact reZ hx hb hr hlocks dX2_alikeOfKind_189 (by first | exact Or.inl rfl | exact Or.inr rfl | exact bI_01 _ | (rename_i h9; rw [h9]; exact bI_01 _) | (subst_vars; exact bI_01 _)) (by first | (simp only [pAlikeK, bI, c1, c2, c12, c16, c20, decide_true, decide_false, Bool.not_true, Bool.not_false, Bool.and_true, Bool.true_and, Bool.and_false, Bool.false_and, Bool.or_true, Bool.true_or, Bool.or_false, Bool.false_or, Bool.and_self, Bool.or_self, if_true, if_false, ite_true, ite_false, Bool.false_eq_true, reduceIte, not_true_eq_false, not_false_eq_true, and_true, true_and, and_false, false_and, or_true, true_or, or_false, false_or, and_self, or_self, eq_self, decide_eq_true_eq, Bool.true_eq_false, reduceCtorEq, ne_eq]; done) | (simp [pAlikeK, bI, c1, c2, c12, c16, c20]; done))
  · skip
    refine lv_iconst (v := 1) hx hb dX2_alikeOfKind_184 (by decide) ?_
    refine lv_goto (tgt := 189) hx hb dX2_alikeOfKind_185 (by decide) ?_
    exact reZ hx hb hr hlocks dX2_alikeOfKind_189 (by first | exact Or.inl rfl | exact Or.inr rfl | exact bI_01 _ | (rename_i h9; rw [h9]; exact bI_01 _) | (subst_vars; exact bI_01 _)) (by first | (simp only [pAlikeK, bI, c1, c2, c12, c16, eq_true c20, decide_true, decide_false, Bool.not_true, Bool.not_false, Bool.and_true, Bool.true_and, Bool.and_false, Bool.false_and, Bool.or_true, Bool.true_or, Bool.or_false, Bool.false_or, Bool.and_self, Bool.or_self, if_true, if_false, ite_true, ite_false, Bool.false_eq_true, reduceIte, not_true_eq_false, not_false_eq_true, and_true, true_and, and_false, false_and, or_true, true_or, or_false, false_or, and_self, or_self, eq_self, decide_eq_true_eq, Bool.true_eq_false, reduceCtorEq, ne_eq]; done) | (simp [pAlikeK, bI, c1, c2, c12, c16, eq_true c20]; done))
theorem hdX2_alikeOfKind : yX2_alikeOfKind.cls = RX2 ∧ yX2_alikeOfKind.cls ≠ "java/lang/invoke/MethodHandle" ∧ yX2_alikeOfKind.cls ≠ "java/lang/invoke/VarHandle" ∧ (parseMethodDescriptor yX2_alikeOfKind.desc).map (fun d => d.parameters.length) = some 3 := by decide +kernel
set_option maxHeartbeats 4000000 in
set_option maxRecDepth 100000 in
theorem c_X2_alikeButStrings (l : Launch) (D : va_G) (Y : Nat → ClassId) (ad : OA) (t : OS) (a : Int32) (b : Int32) (hok : oOK t) : Met l yX2_alikeButStrings wsX2_alikeButStrings ({ frames := 2, cells := 0, slots := 0, locals := 44 }) (rdPc D Y [.ref (oO ad), .int a, .int b] (oW Y ad t)) (vp_Si (fun ans => ans = bI (pAlikeB t a b))) 0 0 (fun _ => False) := by
  refine rdOf (cc := cX2_alikeButStrings) (maxL := 5) (ret := (some .boolean)) (own := RX2) (by decide) rfl rfl (Nat.le_of_ble_eq_true rfl) ?_
  intro p e s m below meth c ls hx hb hr hts hown hml hlocks hP hK hl
  have iwX2 : ∀ w ∈ u_ws RX2 TX2 10, w ∈ wsX2_alikeButStrings := fun _ h => List.mem_cons_of_mem _ (List.mem_append_left _ (List.mem_append_right _ h))
  have hl : lv_has ls 5 [(0, .ref (oO ad)), (1, .int a), (2, .int b)] := hl
  refine lv_aload_n hx hb dX2_alikeButStrings_0 rfl (lv_at hl 0 rfl) ?_
  refine va_get (D := D) (ci := 3) (v := .ref (oH ad 0)) (C := RX2) (T := TX2) (N := 10) hx hb hts iwX2 hown hK hP 0 rfl rfl 0 (by decide) (hts (.fieldLink RX2 12 "ObjectRows" "kinds" "LObjectRows$Row;") (by decide +kernel)) (fun _ h9 => h9) rfl dX2_alikeButStrings_1 ?_
  refine lv_iload_n hx hb dX2_alikeButStrings_4 rfl (lv_at hl 1 rfl) ?_
  refine rcI (As := [.int a]) (rest := []) ⟨hx, hb, hml, hown, hts⟩ (c_X1_at l D Y (oH ad 0) (oR t 0) a (hok 0 (by decide))) (cwV 1 hts gX2_alikeButStrings_X1_at rfl rfl rfl hdX1_at ⟨Nat.le_of_ble_eq_true rfl, Nat.le_of_ble_eq_true rfl⟩) (oWr0 hP) hK 0 2 rfl rfl rfl hl.1 rfl (Nat.le_of_ble_eq_true rfl) dX2_alikeButStrings_5 ⟨(Nat.zero_le _), (Nat.zero_le _)⟩ (fun r1 hr1 => ?_)
  obtain rfl : r1 = kd t a := hr1
  refine lv_istore_n (lv' := [(3, .int (kd t a)), (0, .ref (oO ad)), (1, .int a), (2, .int b)]) hx hb dX2_alikeButStrings_8 rfl hl (by decide) rfl (fun ls hl => ?_)
  refine lv_aload_n hx hb dX2_alikeButStrings_9 rfl (lv_at hl 1 rfl) ?_
  refine va_get (D := D) (ci := 3) (v := .ref (oH ad 0)) (C := RX2) (T := TX2) (N := 10) hx hb hts iwX2 hown hK hP 0 rfl rfl 0 (by decide) (hts (.fieldLink RX2 12 "ObjectRows" "kinds" "LObjectRows$Row;") (by decide +kernel)) (fun _ h9 => h9) rfl dX2_alikeButStrings_10 ?_
  refine lv_iload_n hx hb dX2_alikeButStrings_13 rfl (lv_at hl 3 rfl) ?_
  refine rcI (As := [.int b]) (rest := []) ⟨hx, hb, hml, hown, hts⟩ (c_X1_at l D Y (oH ad 0) (oR t 0) b (hok 0 (by decide))) (cwV 1 hts gX2_alikeButStrings_X1_at rfl rfl rfl hdX1_at ⟨Nat.le_of_ble_eq_true rfl, Nat.le_of_ble_eq_true rfl⟩) (oWr0 hP) hK 0 2 rfl rfl rfl hl.1 rfl (Nat.le_of_ble_eq_true rfl) dX2_alikeButStrings_14 ⟨(Nat.zero_le _), (Nat.zero_le _)⟩ (fun r2 hr2 => ?_)
  obtain rfl : r2 = kd t b := hr2
  refine lv_istore (lv' := [(4, .int (kd t b)), (3, .int (kd t a)), (0, .ref (oO ad)), (1, .int a), (2, .int b)]) hx hb dX2_alikeButStrings_17 hl (by decide) rfl (fun ls hl => ?_)
  refine lv_iload_n hx hb dX2_alikeButStrings_19 rfl (lv_at hl 1 rfl) ?_
  refine scI (As := [.int (kd t a)]) (rest := []) ⟨hx, hb, hml, hown, hts⟩ (c_X2_isList l (kd t a)) (va_cwS 1 hts gX2_alikeButStrings_X2_isList rfl rfl rfl hdX2_isList ⟨Nat.le_of_ble_eq_true rfl, Nat.le_of_ble_eq_true rfl⟩) rfl hl.1 rfl (Nat.le_of_ble_eq_true rfl) dX2_alikeButStrings_20 ⟨(Nat.zero_le _), (Nat.zero_le _)⟩ (fun r3 hr3 => ?_)
  replace hr3 : r3 = bI (pList (kd t a)) := hr3
  cases b4 : pList (kd t a)
  · replace hr3 : r3 = 0 := by rw [hr3, b4]; rfl
    subst hr3
    refine lv_if_eq (tgt := 58) hx hb dX2_alikeButStrings_23 (by decide) (fun _ => ?_) (fun c5 => absurd (by decide) c5)
    refine lv_iload_n hx hb dX2_alikeButStrings_58 rfl (lv_at hl 1 rfl) ?_
    refine lv_iload hx hb dX2_alikeButStrings_59 (lv_at hl 0 rfl) ?_
    refine lv_icmp_ne (tgt := 78) hx hb dX2_alikeButStrings_61 (by decide) (fun c6 => ?_) (fun c6 => ?_)
    · skip
      refine lv_iconst (v := 0) hx hb dX2_alikeButStrings_78 (by decide) ?_
      exact reZ hx hb hr hlocks dX2_alikeButStrings_79 (by first | exact Or.inl rfl | exact Or.inr rfl | exact bI_01 _ | (rename_i h9; rw [h9]; exact bI_01 _) | (subst_vars; exact bI_01 _)) (by first | (simp only [pAlikeB, bI, b4, c6, decide_true, decide_false, Bool.not_true, Bool.not_false, Bool.and_true, Bool.true_and, Bool.and_false, Bool.false_and, Bool.or_true, Bool.true_or, Bool.or_false, Bool.false_or, Bool.and_self, Bool.or_self, if_true, if_false, ite_true, ite_false, Bool.false_eq_true, reduceIte, not_true_eq_false, not_false_eq_true, and_true, true_and, and_false, false_and, or_true, true_or, or_false, false_or, and_self, or_self, eq_self, decide_eq_true_eq, Bool.true_eq_false, reduceCtorEq, ne_eq]; done) | (simp [pAlikeB, bI, b4, c6]; done))
    · skip
      refine lv_aload_n hx hb dX2_alikeButStrings_64 rfl (lv_at hl 2 rfl) ?_
      refine lv_iload_n hx hb dX2_alikeButStrings_65 rfl (lv_at hl 1 rfl) ?_
      refine lv_iload_n hx hb dX2_alikeButStrings_66 rfl (lv_at hl 3 rfl) ?_
      refine lv_iload_n hx hb dX2_alikeButStrings_67 rfl (lv_at hl 4 rfl) ?_
      refine rcI (As := [.int (kd t a), .int a, .int b]) (rest := []) ⟨hx, hb, hml, hown, hts⟩ (c_X2_alikeOfKind l D Y ad t (kd t a) a b hok) (cwV 3 hts gX2_alikeButStrings_X2_alikeOfKind rfl rfl rfl hdX2_alikeOfKind ⟨Nat.le_of_ble_eq_true rfl, Nat.le_of_ble_eq_true rfl⟩) hP hK 0 3 rfl rfl rfl hl.1 rfl (Nat.le_of_ble_eq_true rfl) dX2_alikeButStrings_68 ⟨(Nat.zero_le _), (Nat.zero_le _)⟩ (fun r7 hr7 => ?_)
      replace hr7 : r7 = bI (pAlikeK t (kd t a) a b) := hr7
      cases b8 : pAlikeK t (kd t a) a b
      · replace hr7 : r7 = 0 := by rw [hr7, b8]; rfl
        subst hr7
        refine lv_if_eq (tgt := 78) hx hb dX2_alikeButStrings_71 (by decide) (fun _ => ?_) (fun c9 => absurd (by decide) c9)
        refine lv_iconst (v := 0) hx hb dX2_alikeButStrings_78 (by decide) ?_
        exact reZ hx hb hr hlocks dX2_alikeButStrings_79 (by first | exact Or.inl rfl | exact Or.inr rfl | exact bI_01 _ | (rename_i h9; rw [h9]; exact bI_01 _) | (subst_vars; exact bI_01 _)) (by first | (simp only [pAlikeB, bI, b4, eq_true c6, b8, decide_true, decide_false, Bool.not_true, Bool.not_false, Bool.and_true, Bool.true_and, Bool.and_false, Bool.false_and, Bool.or_true, Bool.true_or, Bool.or_false, Bool.false_or, Bool.and_self, Bool.or_self, if_true, if_false, ite_true, ite_false, Bool.false_eq_true, reduceIte, not_true_eq_false, not_false_eq_true, and_true, true_and, and_false, false_and, or_true, true_or, or_false, false_or, and_self, or_self, eq_self, decide_eq_true_eq, Bool.true_eq_false, reduceCtorEq, ne_eq]; done) | (simp [pAlikeB, bI, b4, eq_true c6, b8]; done))
      · replace hr7 : r7 = 1 := by rw [hr7, b8]; rfl
        subst hr7
        refine lv_if_eq (tgt := 78) hx hb dX2_alikeButStrings_71 (by decide) (fun c10 => absurd c10 (by decide)) (fun _ => ?_)
        refine lv_iconst (v := 1) hx hb dX2_alikeButStrings_74 (by decide) ?_
        refine lv_goto (tgt := 79) hx hb dX2_alikeButStrings_75 (by decide) ?_
        exact reZ hx hb hr hlocks dX2_alikeButStrings_79 (by first | exact Or.inl rfl | exact Or.inr rfl | exact bI_01 _ | (rename_i h9; rw [h9]; exact bI_01 _) | (subst_vars; exact bI_01 _)) (by first | (simp only [pAlikeB, bI, b4, eq_true c6, b8, decide_true, decide_false, Bool.not_true, Bool.not_false, Bool.and_true, Bool.true_and, Bool.and_false, Bool.false_and, Bool.or_true, Bool.true_or, Bool.or_false, Bool.false_or, Bool.and_self, Bool.or_self, if_true, if_false, ite_true, ite_false, Bool.false_eq_true, reduceIte, not_true_eq_false, not_false_eq_true, and_true, true_and, and_false, false_and, or_true, true_or, or_false, false_or, and_self, or_self, eq_self, decide_eq_true_eq, Bool.true_eq_false, reduceCtorEq, ne_eq]; done) | (simp [pAlikeB, bI, b4, eq_true c6, b8]; done))
  · replace hr3 : r3 = 1 := by rw [hr3, b4]; rfl
    subst hr3
    refine lv_if_eq (tgt := 58) hx hb dX2_alikeButStrings_23 (by decide) (fun c11 => absurd c11 (by decide)) (fun _ => ?_)
    refine lv_iload hx hb dX2_alikeButStrings_26 (lv_at hl 0 rfl) ?_
    refine scI (As := [.int (kd t b)]) (rest := []) ⟨hx, hb, hml, hown, hts⟩ (c_X2_isList l (kd t b)) (va_cwS 1 hts gX2_alikeButStrings_X2_isList rfl rfl rfl hdX2_isList ⟨Nat.le_of_ble_eq_true rfl, Nat.le_of_ble_eq_true rfl⟩) rfl hl.1 rfl (Nat.le_of_ble_eq_true rfl) dX2_alikeButStrings_28 ⟨(Nat.zero_le _), (Nat.zero_le _)⟩ (fun r12 hr12 => ?_)
    replace hr12 : r12 = bI (pList (kd t b)) := hr12
    cases b13 : pList (kd t b)
    · replace hr12 : r12 = 0 := by rw [hr12, b13]; rfl
      subst hr12
      refine lv_if_eq (tgt := 58) hx hb dX2_alikeButStrings_31 (by decide) (fun _ => ?_) (fun c14 => absurd (by decide) c14)
      refine lv_iload_n hx hb dX2_alikeButStrings_58 rfl (lv_at hl 1 rfl) ?_
      refine lv_iload hx hb dX2_alikeButStrings_59 (lv_at hl 0 rfl) ?_
      refine lv_icmp_ne (tgt := 78) hx hb dX2_alikeButStrings_61 (by decide) (fun c15 => ?_) (fun c15 => ?_)
      · skip
        refine lv_iconst (v := 0) hx hb dX2_alikeButStrings_78 (by decide) ?_
        exact reZ hx hb hr hlocks dX2_alikeButStrings_79 (by first | exact Or.inl rfl | exact Or.inr rfl | exact bI_01 _ | (rename_i h9; rw [h9]; exact bI_01 _) | (subst_vars; exact bI_01 _)) (by first | (simp only [pAlikeB, bI, b4, b13, c15, decide_true, decide_false, Bool.not_true, Bool.not_false, Bool.and_true, Bool.true_and, Bool.and_false, Bool.false_and, Bool.or_true, Bool.true_or, Bool.or_false, Bool.false_or, Bool.and_self, Bool.or_self, if_true, if_false, ite_true, ite_false, Bool.false_eq_true, reduceIte, not_true_eq_false, not_false_eq_true, and_true, true_and, and_false, false_and, or_true, true_or, or_false, false_or, and_self, or_self, eq_self, decide_eq_true_eq, Bool.true_eq_false, reduceCtorEq, ne_eq]; done) | (simp [pAlikeB, bI, b4, b13, c15]; done))
      · skip
        refine lv_aload_n hx hb dX2_alikeButStrings_64 rfl (lv_at hl 2 rfl) ?_
        refine lv_iload_n hx hb dX2_alikeButStrings_65 rfl (lv_at hl 1 rfl) ?_
        refine lv_iload_n hx hb dX2_alikeButStrings_66 rfl (lv_at hl 3 rfl) ?_
        refine lv_iload_n hx hb dX2_alikeButStrings_67 rfl (lv_at hl 4 rfl) ?_
        refine rcI (As := [.int (kd t a), .int a, .int b]) (rest := []) ⟨hx, hb, hml, hown, hts⟩ (c_X2_alikeOfKind l D Y ad t (kd t a) a b hok) (cwV 3 hts gX2_alikeButStrings_X2_alikeOfKind rfl rfl rfl hdX2_alikeOfKind ⟨Nat.le_of_ble_eq_true rfl, Nat.le_of_ble_eq_true rfl⟩) hP hK 0 3 rfl rfl rfl hl.1 rfl (Nat.le_of_ble_eq_true rfl) dX2_alikeButStrings_68 ⟨(Nat.zero_le _), (Nat.zero_le _)⟩ (fun r16 hr16 => ?_)
        replace hr16 : r16 = bI (pAlikeK t (kd t a) a b) := hr16
        cases b17 : pAlikeK t (kd t a) a b
        · replace hr16 : r16 = 0 := by rw [hr16, b17]; rfl
          subst hr16
          refine lv_if_eq (tgt := 78) hx hb dX2_alikeButStrings_71 (by decide) (fun _ => ?_) (fun c18 => absurd (by decide) c18)
          refine lv_iconst (v := 0) hx hb dX2_alikeButStrings_78 (by decide) ?_
          exact reZ hx hb hr hlocks dX2_alikeButStrings_79 (by first | exact Or.inl rfl | exact Or.inr rfl | exact bI_01 _ | (rename_i h9; rw [h9]; exact bI_01 _) | (subst_vars; exact bI_01 _)) (by first | (simp only [pAlikeB, bI, b4, b13, eq_true c15, b17, decide_true, decide_false, Bool.not_true, Bool.not_false, Bool.and_true, Bool.true_and, Bool.and_false, Bool.false_and, Bool.or_true, Bool.true_or, Bool.or_false, Bool.false_or, Bool.and_self, Bool.or_self, if_true, if_false, ite_true, ite_false, Bool.false_eq_true, reduceIte, not_true_eq_false, not_false_eq_true, and_true, true_and, and_false, false_and, or_true, true_or, or_false, false_or, and_self, or_self, eq_self, decide_eq_true_eq, Bool.true_eq_false, reduceCtorEq, ne_eq]; done) | (simp [pAlikeB, bI, b4, b13, eq_true c15, b17]; done))
        · replace hr16 : r16 = 1 := by rw [hr16, b17]; rfl
          subst hr16
          refine lv_if_eq (tgt := 78) hx hb dX2_alikeButStrings_71 (by decide) (fun c19 => absurd c19 (by decide)) (fun _ => ?_)
          refine lv_iconst (v := 1) hx hb dX2_alikeButStrings_74 (by decide) ?_
          refine lv_goto (tgt := 79) hx hb dX2_alikeButStrings_75 (by decide) ?_
          exact reZ hx hb hr hlocks dX2_alikeButStrings_79 (by first | exact Or.inl rfl | exact Or.inr rfl | exact bI_01 _ | (rename_i h9; rw [h9]; exact bI_01 _) | (subst_vars; exact bI_01 _)) (by first | (simp only [pAlikeB, bI, b4, b13, eq_true c15, b17, decide_true, decide_false, Bool.not_true, Bool.not_false, Bool.and_true, Bool.true_and, Bool.and_false, Bool.false_and, Bool.or_true, Bool.true_or, Bool.or_false, Bool.false_or, Bool.and_self, Bool.or_self, if_true, if_false, ite_true, ite_false, Bool.false_eq_true, reduceIte, not_true_eq_false, not_false_eq_true, and_true, true_and, and_false, false_and, or_true, true_or, or_false, false_or, and_self, or_self, eq_self, decide_eq_true_eq, Bool.true_eq_false, reduceCtorEq, ne_eq]; done) | (simp [pAlikeB, bI, b4, b13, eq_true c15, b17]; done))
    · replace hr12 : r12 = 1 := by rw [hr12, b13]; rfl
      subst hr12
      refine lv_if_eq (tgt := 58) hx hb dX2_alikeButStrings_31 (by decide) (fun c20 => absurd c20 (by decide)) (fun _ => ?_)
      refine lv_aload_n hx hb dX2_alikeButStrings_34 rfl (lv_at hl 2 rfl) ?_
      refine va_get (D := D) (ci := 3) (v := .ref (oH ad 4)) (C := RX2) (T := TX2) (N := 10) hx hb hts iwX2 hown hK hP 0 rfl rfl 4 (by decide) (hts (.fieldLink RX2 25 "ObjectRows" "lengths" "LObjectRows$Row;") (by decide +kernel)) (fun _ h9 => h9) rfl dX2_alikeButStrings_35 ?_
      refine lv_iload_n hx hb dX2_alikeButStrings_38 rfl (lv_at hl 3 rfl) ?_
      refine rcI (As := [.int a]) (rest := []) ⟨hx, hb, hml, hown, hts⟩ (c_X1_at l D Y (oH ad 4) (oR t 4) a (hok 4 (by decide))) (cwV 1 hts gX2_alikeButStrings_X1_at rfl rfl rfl hdX1_at ⟨Nat.le_of_ble_eq_true rfl, Nat.le_of_ble_eq_true rfl⟩) (oWr4 hP) hK 0 2 rfl rfl rfl hl.1 rfl (Nat.le_of_ble_eq_true rfl) dX2_alikeButStrings_39 ⟨(Nat.zero_le _), (Nat.zero_le _)⟩ (fun r21 hr21 => ?_)
      obtain rfl : r21 = len t a := hr21
      refine lv_if_ne (tgt := 58) hx hb dX2_alikeButStrings_42 (by decide) (fun c22 => ?_) (fun c22 => ?_)
      · skip
        refine lv_iload_n hx hb dX2_alikeButStrings_58 rfl (lv_at hl 1 rfl) ?_
        refine lv_iload hx hb dX2_alikeButStrings_59 (lv_at hl 0 rfl) ?_
        refine lv_icmp_ne (tgt := 78) hx hb dX2_alikeButStrings_61 (by decide) (fun c23 => ?_) (fun c23 => ?_)
        · skip
          refine lv_iconst (v := 0) hx hb dX2_alikeButStrings_78 (by decide) ?_
          exact reZ hx hb hr hlocks dX2_alikeButStrings_79 (by first | exact Or.inl rfl | exact Or.inr rfl | exact bI_01 _ | (rename_i h9; rw [h9]; exact bI_01 _) | (subst_vars; exact bI_01 _)) (by first | (simp only [pAlikeB, bI, b4, b13, c22, c23, decide_true, decide_false, Bool.not_true, Bool.not_false, Bool.and_true, Bool.true_and, Bool.and_false, Bool.false_and, Bool.or_true, Bool.true_or, Bool.or_false, Bool.false_or, Bool.and_self, Bool.or_self, if_true, if_false, ite_true, ite_false, Bool.false_eq_true, reduceIte, not_true_eq_false, not_false_eq_true, and_true, true_and, and_false, false_and, or_true, true_or, or_false, false_or, and_self, or_self, eq_self, decide_eq_true_eq, Bool.true_eq_false, reduceCtorEq, ne_eq]; done) | (simp [pAlikeB, bI, b4, b13, c22, c23]; done))
        · skip
          refine lv_aload_n hx hb dX2_alikeButStrings_64 rfl (lv_at hl 2 rfl) ?_
          refine lv_iload_n hx hb dX2_alikeButStrings_65 rfl (lv_at hl 1 rfl) ?_
          refine lv_iload_n hx hb dX2_alikeButStrings_66 rfl (lv_at hl 3 rfl) ?_
          refine lv_iload_n hx hb dX2_alikeButStrings_67 rfl (lv_at hl 4 rfl) ?_
          refine rcI (As := [.int (kd t a), .int a, .int b]) (rest := []) ⟨hx, hb, hml, hown, hts⟩ (c_X2_alikeOfKind l D Y ad t (kd t a) a b hok) (cwV 3 hts gX2_alikeButStrings_X2_alikeOfKind rfl rfl rfl hdX2_alikeOfKind ⟨Nat.le_of_ble_eq_true rfl, Nat.le_of_ble_eq_true rfl⟩) hP hK 0 3 rfl rfl rfl hl.1 rfl (Nat.le_of_ble_eq_true rfl) dX2_alikeButStrings_68 ⟨(Nat.zero_le _), (Nat.zero_le _)⟩ (fun r24 hr24 => ?_)
          replace hr24 : r24 = bI (pAlikeK t (kd t a) a b) := hr24
          cases b25 : pAlikeK t (kd t a) a b
          · replace hr24 : r24 = 0 := by rw [hr24, b25]; rfl
            subst hr24
            refine lv_if_eq (tgt := 78) hx hb dX2_alikeButStrings_71 (by decide) (fun _ => ?_) (fun c26 => absurd (by decide) c26)
            refine lv_iconst (v := 0) hx hb dX2_alikeButStrings_78 (by decide) ?_
            exact reZ hx hb hr hlocks dX2_alikeButStrings_79 (by first | exact Or.inl rfl | exact Or.inr rfl | exact bI_01 _ | (rename_i h9; rw [h9]; exact bI_01 _) | (subst_vars; exact bI_01 _)) (by first | (simp only [pAlikeB, bI, b4, b13, c22, eq_true c23, b25, decide_true, decide_false, Bool.not_true, Bool.not_false, Bool.and_true, Bool.true_and, Bool.and_false, Bool.false_and, Bool.or_true, Bool.true_or, Bool.or_false, Bool.false_or, Bool.and_self, Bool.or_self, if_true, if_false, ite_true, ite_false, Bool.false_eq_true, reduceIte, not_true_eq_false, not_false_eq_true, and_true, true_and, and_false, false_and, or_true, true_or, or_false, false_or, and_self, or_self, eq_self, decide_eq_true_eq, Bool.true_eq_false, reduceCtorEq, ne_eq]; done) | (simp [pAlikeB, bI, b4, b13, c22, eq_true c23, b25]; done))
          · replace hr24 : r24 = 1 := by rw [hr24, b25]; rfl
            subst hr24
            refine lv_if_eq (tgt := 78) hx hb dX2_alikeButStrings_71 (by decide) (fun c27 => absurd c27 (by decide)) (fun _ => ?_)
            refine lv_iconst (v := 1) hx hb dX2_alikeButStrings_74 (by decide) ?_
            refine lv_goto (tgt := 79) hx hb dX2_alikeButStrings_75 (by decide) ?_
            exact reZ hx hb hr hlocks dX2_alikeButStrings_79 (by first | exact Or.inl rfl | exact Or.inr rfl | exact bI_01 _ | (rename_i h9; rw [h9]; exact bI_01 _) | (subst_vars; exact bI_01 _)) (by first | (simp only [pAlikeB, bI, b4, b13, c22, eq_true c23, b25, decide_true, decide_false, Bool.not_true, Bool.not_false, Bool.and_true, Bool.true_and, Bool.and_false, Bool.false_and, Bool.or_true, Bool.true_or, Bool.or_false, Bool.false_or, Bool.and_self, Bool.or_self, if_true, if_false, ite_true, ite_false, Bool.false_eq_true, reduceIte, not_true_eq_false, not_false_eq_true, and_true, true_and, and_false, false_and, or_true, true_or, or_false, false_or, and_self, or_self, eq_self, decide_eq_true_eq, Bool.true_eq_false, reduceCtorEq, ne_eq]; done) | (simp [pAlikeB, bI, b4, b13, c22, eq_true c23, b25]; done))
      · skip
        refine lv_aload_n hx hb dX2_alikeButStrings_45 rfl (lv_at hl 2 rfl) ?_
        refine va_get (D := D) (ci := 3) (v := .ref (oH ad 4)) (C := RX2) (T := TX2) (N := 10) hx hb hts iwX2 hown hK hP 0 rfl rfl 4 (by decide) (hts (.fieldLink RX2 25 "ObjectRows" "lengths" "LObjectRows$Row;") (by decide +kernel)) (fun _ h9 => h9) rfl dX2_alikeButStrings_46 ?_
        refine lv_iload_n hx hb dX2_alikeButStrings_49 rfl (lv_at hl 4 rfl) ?_
        refine rcI (As := [.int b]) (rest := []) ⟨hx, hb, hml, hown, hts⟩ (c_X1_at l D Y (oH ad 4) (oR t 4) b (hok 4 (by decide))) (cwV 1 hts gX2_alikeButStrings_X1_at rfl rfl rfl hdX1_at ⟨Nat.le_of_ble_eq_true rfl, Nat.le_of_ble_eq_true rfl⟩) (oWr4 hP) hK 0 2 rfl rfl rfl hl.1 rfl (Nat.le_of_ble_eq_true rfl) dX2_alikeButStrings_50 ⟨(Nat.zero_le _), (Nat.zero_le _)⟩ (fun r28 hr28 => ?_)
        obtain rfl : r28 = len t b := hr28
        refine lv_if_ne (tgt := 58) hx hb dX2_alikeButStrings_53 (by decide) (fun c29 => ?_) (fun c29 => ?_)
        · skip
          refine lv_iload_n hx hb dX2_alikeButStrings_58 rfl (lv_at hl 1 rfl) ?_
          refine lv_iload hx hb dX2_alikeButStrings_59 (lv_at hl 0 rfl) ?_
          refine lv_icmp_ne (tgt := 78) hx hb dX2_alikeButStrings_61 (by decide) (fun c30 => ?_) (fun c30 => ?_)
          · skip
            refine lv_iconst (v := 0) hx hb dX2_alikeButStrings_78 (by decide) ?_
            exact reZ hx hb hr hlocks dX2_alikeButStrings_79 (by first | exact Or.inl rfl | exact Or.inr rfl | exact bI_01 _ | (rename_i h9; rw [h9]; exact bI_01 _) | (subst_vars; exact bI_01 _)) (by first | (simp only [pAlikeB, bI, b4, b13, c22, c29, c30, decide_true, decide_false, Bool.not_true, Bool.not_false, Bool.and_true, Bool.true_and, Bool.and_false, Bool.false_and, Bool.or_true, Bool.true_or, Bool.or_false, Bool.false_or, Bool.and_self, Bool.or_self, if_true, if_false, ite_true, ite_false, Bool.false_eq_true, reduceIte, not_true_eq_false, not_false_eq_true, and_true, true_and, and_false, false_and, or_true, true_or, or_false, false_or, and_self, or_self, eq_self, decide_eq_true_eq, Bool.true_eq_false, reduceCtorEq, ne_eq]; done) | (simp [pAlikeB, bI, b4, b13, c22, c29, c30]; done) | (simp only [pAlikeB, bI, b4, b13, eq_true c22, c29, c30, decide_true, decide_false, Bool.not_true, Bool.not_false, Bool.and_true, Bool.true_and, Bool.and_false, Bool.false_and, Bool.or_true, Bool.true_or, Bool.or_false, Bool.false_or, Bool.and_self, Bool.or_self, if_true, if_false, ite_true, ite_false, Bool.false_eq_true, reduceIte, not_true_eq_false, not_false_eq_true, and_true, true_and, and_false, false_and, or_true, true_or, or_false, false_or, and_self, or_self, eq_self, decide_eq_true_eq, Bool.true_eq_false, reduceCtorEq, ne_eq]; done) | (simp [pAlikeB, bI, b4, b13, eq_true c22, c29, c30]; done))
          · skip
            refine lv_aload_n hx hb dX2_alikeButStrings_64 rfl (lv_at hl 2 rfl) ?_
            refine lv_iload_n hx hb dX2_alikeButStrings_65 rfl (lv_at hl 1 rfl) ?_
            refine lv_iload_n hx hb dX2_alikeButStrings_66 rfl (lv_at hl 3 rfl) ?_
            refine lv_iload_n hx hb dX2_alikeButStrings_67 rfl (lv_at hl 4 rfl) ?_
            refine rcI (As := [.int (kd t a), .int a, .int b]) (rest := []) ⟨hx, hb, hml, hown, hts⟩ (c_X2_alikeOfKind l D Y ad t (kd t a) a b hok) (cwV 3 hts gX2_alikeButStrings_X2_alikeOfKind rfl rfl rfl hdX2_alikeOfKind ⟨Nat.le_of_ble_eq_true rfl, Nat.le_of_ble_eq_true rfl⟩) hP hK 0 3 rfl rfl rfl hl.1 rfl (Nat.le_of_ble_eq_true rfl) dX2_alikeButStrings_68 ⟨(Nat.zero_le _), (Nat.zero_le _)⟩ (fun r31 hr31 => ?_)
            replace hr31 : r31 = bI (pAlikeK t (kd t a) a b) := hr31
            cases b32 : pAlikeK t (kd t a) a b
            · replace hr31 : r31 = 0 := by rw [hr31, b32]; rfl
              subst hr31
              refine lv_if_eq (tgt := 78) hx hb dX2_alikeButStrings_71 (by decide) (fun _ => ?_) (fun c33 => absurd (by decide) c33)
              refine lv_iconst (v := 0) hx hb dX2_alikeButStrings_78 (by decide) ?_
              exact reZ hx hb hr hlocks dX2_alikeButStrings_79 (by first | exact Or.inl rfl | exact Or.inr rfl | exact bI_01 _ | (rename_i h9; rw [h9]; exact bI_01 _) | (subst_vars; exact bI_01 _)) (by first | (simp only [pAlikeB, bI, b4, b13, c22, c29, eq_true c30, b32, decide_true, decide_false, Bool.not_true, Bool.not_false, Bool.and_true, Bool.true_and, Bool.and_false, Bool.false_and, Bool.or_true, Bool.true_or, Bool.or_false, Bool.false_or, Bool.and_self, Bool.or_self, if_true, if_false, ite_true, ite_false, Bool.false_eq_true, reduceIte, not_true_eq_false, not_false_eq_true, and_true, true_and, and_false, false_and, or_true, true_or, or_false, false_or, and_self, or_self, eq_self, decide_eq_true_eq, Bool.true_eq_false, reduceCtorEq, ne_eq]; done) | (simp [pAlikeB, bI, b4, b13, c22, c29, eq_true c30, b32]; done) | (simp only [pAlikeB, bI, b4, b13, eq_true c22, c29, eq_true c30, b32, decide_true, decide_false, Bool.not_true, Bool.not_false, Bool.and_true, Bool.true_and, Bool.and_false, Bool.false_and, Bool.or_true, Bool.true_or, Bool.or_false, Bool.false_or, Bool.and_self, Bool.or_self, if_true, if_false, ite_true, ite_false, Bool.false_eq_true, reduceIte, not_true_eq_false, not_false_eq_true, and_true, true_and, and_false, false_and, or_true, true_or, or_false, false_or, and_self, or_self, eq_self, decide_eq_true_eq, Bool.true_eq_false, reduceCtorEq, ne_eq]; done) | (simp [pAlikeB, bI, b4, b13, eq_true c22, c29, eq_true c30, b32]; done))
            · replace hr31 : r31 = 1 := by rw [hr31, b32]; rfl
              subst hr31
              refine lv_if_eq (tgt := 78) hx hb dX2_alikeButStrings_71 (by decide) (fun c34 => absurd c34 (by decide)) (fun _ => ?_)
              refine lv_iconst (v := 1) hx hb dX2_alikeButStrings_74 (by decide) ?_
              refine lv_goto (tgt := 79) hx hb dX2_alikeButStrings_75 (by decide) ?_
              exact reZ hx hb hr hlocks dX2_alikeButStrings_79 (by first | exact Or.inl rfl | exact Or.inr rfl | exact bI_01 _ | (rename_i h9; rw [h9]; exact bI_01 _) | (subst_vars; exact bI_01 _)) (by first | (simp only [pAlikeB, bI, b4, b13, c22, c29, eq_true c30, b32, decide_true, decide_false, Bool.not_true, Bool.not_false, Bool.and_true, Bool.true_and, Bool.and_false, Bool.false_and, Bool.or_true, Bool.true_or, Bool.or_false, Bool.false_or, Bool.and_self, Bool.or_self, if_true, if_false, ite_true, ite_false, Bool.false_eq_true, reduceIte, not_true_eq_false, not_false_eq_true, and_true, true_and, and_false, false_and, or_true, true_or, or_false, false_or, and_self, or_self, eq_self, decide_eq_true_eq, Bool.true_eq_false, reduceCtorEq, ne_eq]; done) | (simp [pAlikeB, bI, b4, b13, c22, c29, eq_true c30, b32]; done) | (simp only [pAlikeB, bI, b4, b13, eq_true c22, c29, eq_true c30, b32, decide_true, decide_false, Bool.not_true, Bool.not_false, Bool.and_true, Bool.true_and, Bool.and_false, Bool.false_and, Bool.or_true, Bool.true_or, Bool.or_false, Bool.false_or, Bool.and_self, Bool.or_self, if_true, if_false, ite_true, ite_false, Bool.false_eq_true, reduceIte, not_true_eq_false, not_false_eq_true, and_true, true_and, and_false, false_and, or_true, true_or, or_false, false_or, and_self, or_self, eq_self, decide_eq_true_eq, Bool.true_eq_false, reduceCtorEq, ne_eq]; done) | (simp [pAlikeB, bI, b4, b13, eq_true c22, c29, eq_true c30, b32]; done))
        · skip
          refine lv_iconst (v := 1) hx hb dX2_alikeButStrings_56 (by decide) ?_
          exact reZ hx hb hr hlocks dX2_alikeButStrings_57 (by first | exact Or.inl rfl | exact Or.inr rfl | exact bI_01 _ | (rename_i h9; rw [h9]; exact bI_01 _) | (subst_vars; exact bI_01 _)) (by first | (simp only [pAlikeB, bI, b4, b13, c22, c29, decide_true, decide_false, Bool.not_true, Bool.not_false, Bool.and_true, Bool.true_and, Bool.and_false, Bool.false_and, Bool.or_true, Bool.true_or, Bool.or_false, Bool.false_or, Bool.and_self, Bool.or_self, if_true, if_false, ite_true, ite_false, Bool.false_eq_true, reduceIte, not_true_eq_false, not_false_eq_true, and_true, true_and, and_false, false_and, or_true, true_or, or_false, false_or, and_self, or_self, eq_self, decide_eq_true_eq, Bool.true_eq_false, reduceCtorEq, ne_eq]; done) | (simp [pAlikeB, bI, b4, b13, c22, c29]; done) | (simp only [pAlikeB, bI, b4, b13, eq_true c22, eq_true c29, decide_true, decide_false, Bool.not_true, Bool.not_false, Bool.and_true, Bool.true_and, Bool.and_false, Bool.false_and, Bool.or_true, Bool.true_or, Bool.or_false, Bool.false_or, Bool.and_self, Bool.or_self, if_true, if_false, ite_true, ite_false, Bool.false_eq_true, reduceIte, not_true_eq_false, not_false_eq_true, and_true, true_and, and_false, false_and, or_true, true_or, or_false, false_or, and_self, or_self, eq_self, decide_eq_true_eq, Bool.true_eq_false, reduceCtorEq, ne_eq]; done) | (simp [pAlikeB, bI, b4, b13, eq_true c22, eq_true c29]; done))
theorem hdX2_alikeButStrings : yX2_alikeButStrings.cls = RX2 ∧ yX2_alikeButStrings.cls ≠ "java/lang/invoke/MethodHandle" ∧ yX2_alikeButStrings.cls ≠ "java/lang/invoke/VarHandle" ∧ (parseMethodDescriptor yX2_alikeButStrings.desc).map (fun d => d.parameters.length) = some 2 := by decide +kernel
set_option maxHeartbeats 4000000 in
set_option maxRecDepth 100000 in
theorem c_X2_keyCell (l : Launch) (D : va_G) (Y : Nat → ClassId) (ad : OA) (t : OS) (d : Int32) (q : Int32) (hok : oOK t) : Met l yX2_keyCell wsX2_keyCell ({ frames := 1, cells := 0, slots := 0, locals := 21 }) (rdPc D Y [.ref (oO ad), .int d, .int q] (oW Y ad t)) (vp_Si (fun ans => ans = pKeyCell t d q)) 0 0 (fun _ => False) := by
  refine rdOf (cc := cX2_keyCell) (maxL := 3) (ret := (some .int)) (own := RX2) (by decide) rfl rfl (Nat.le_of_ble_eq_true rfl) ?_
  intro p e s m below meth c ls hx hb hr hts hown hml hlocks hP hK hl
  have iwX2 : ∀ w ∈ u_ws RX2 TX2 10, w ∈ wsX2_keyCell := fun _ h => List.mem_cons_of_mem _ (List.mem_append_left _ (List.mem_append_right _ h))
  have hl : lv_has ls 3 [(0, .ref (oO ad)), (1, .int d), (2, .int q)] := hl
  refine lv_aload_n hx hb dX2_keyCell_0 rfl (lv_at hl 0 rfl) ?_
  refine va_get (D := D) (ci := 3) (v := .ref (oH ad 3)) (C := RX2) (T := TX2) (N := 10) hx hb hts iwX2 hown hK hP 0 rfl rfl 3 (by decide) (hts (.fieldLink RX2 22 "ObjectRows" "starts" "LObjectRows$Row;") (by decide +kernel)) (fun _ h9 => h9) rfl dX2_keyCell_1 ?_
  refine lv_iload_n hx hb dX2_keyCell_4 rfl (lv_at hl 1 rfl) ?_
  refine rcI (As := [.int d]) (rest := []) ⟨hx, hb, hml, hown, hts⟩ (c_X1_at l D Y (oH ad 3) (oR t 3) d (hok 3 (by decide))) (cwV 1 hts gX2_keyCell_X1_at rfl rfl rfl hdX1_at ⟨Nat.le_of_ble_eq_true rfl, Nat.le_of_ble_eq_true rfl⟩) (oWr3 hP) hK 0 2 rfl rfl rfl hl.1 rfl (Nat.le_of_ble_eq_true rfl) dX2_keyCell_5 ⟨(Nat.zero_le _), (Nat.zero_le _)⟩ (fun r1 hr1 => ?_)
  obtain rfl : r1 = sta t d := hr1
  refine lv_iload_n hx hb dX2_keyCell_8 rfl (lv_at hl 2 rfl) ?_
  refine lv_iadd hx hb dX2_keyCell_9 ?_
  exact reI hx hb hr hlocks dX2_keyCell_10 (by first | (simp only [pKeyCell, decide_true, decide_false, Bool.not_true, Bool.not_false, Bool.and_true, Bool.true_and, Bool.and_false, Bool.false_and, Bool.or_true, Bool.true_or, Bool.or_false, Bool.false_or, Bool.and_self, Bool.or_self, if_true, if_false, ite_true, ite_false, Bool.false_eq_true, reduceIte, not_true_eq_false, not_false_eq_true, and_true, true_and, and_false, false_and, or_true, true_or, or_false, false_or, and_self, or_self, eq_self, decide_eq_true_eq, Bool.true_eq_false, reduceCtorEq, ne_eq]; done) | (simp [pKeyCell]; done))
theorem hdX2_keyCell : yX2_keyCell.cls = RX2 ∧ yX2_keyCell.cls ≠ "java/lang/invoke/MethodHandle" ∧ yX2_keyCell.cls ≠ "java/lang/invoke/VarHandle" ∧ (parseMethodDescriptor yX2_keyCell.desc).map (fun d => d.parameters.length) = some 2 := by decide +kernel
set_option maxHeartbeats 4000000 in
set_option maxRecDepth 100000 in
theorem c_X2_valueCell (l : Launch) (D : va_G) (Y : Nat → ClassId) (ad : OA) (t : OS) (d : Int32) (q : Int32) (hok : oOK t) : Met l yX2_valueCell wsX2_valueCell ({ frames := 1, cells := 0, slots := 0, locals := 21 }) (rdPc D Y [.ref (oO ad), .int d, .int q] (oW Y ad t)) (vp_Si (fun ans => ans = pValCell t d q)) 0 0 (fun _ => False) := by
  refine rdOf (cc := cX2_valueCell) (maxL := 3) (ret := (some .int)) (own := RX2) (by decide) rfl rfl (Nat.le_of_ble_eq_true rfl) ?_
  intro p e s m below meth c ls hx hb hr hts hown hml hlocks hP hK hl
  have iwX2 : ∀ w ∈ u_ws RX2 TX2 10, w ∈ wsX2_valueCell := fun _ h => List.mem_cons_of_mem _ (List.mem_append_left _ (List.mem_append_right _ h))
  have hl : lv_has ls 3 [(0, .ref (oO ad)), (1, .int d), (2, .int q)] := hl
  refine lv_aload_n hx hb dX2_valueCell_0 rfl (lv_at hl 0 rfl) ?_
  refine va_get (D := D) (ci := 3) (v := .ref (oH ad 3)) (C := RX2) (T := TX2) (N := 10) hx hb hts iwX2 hown hK hP 0 rfl rfl 3 (by decide) (hts (.fieldLink RX2 22 "ObjectRows" "starts" "LObjectRows$Row;") (by decide +kernel)) (fun _ h9 => h9) rfl dX2_valueCell_1 ?_
  refine lv_iload_n hx hb dX2_valueCell_4 rfl (lv_at hl 1 rfl) ?_
  refine rcI (As := [.int d]) (rest := []) ⟨hx, hb, hml, hown, hts⟩ (c_X1_at l D Y (oH ad 3) (oR t 3) d (hok 3 (by decide))) (cwV 1 hts gX2_valueCell_X1_at rfl rfl rfl hdX1_at ⟨Nat.le_of_ble_eq_true rfl, Nat.le_of_ble_eq_true rfl⟩) (oWr3 hP) hK 0 2 rfl rfl rfl hl.1 rfl (Nat.le_of_ble_eq_true rfl) dX2_valueCell_5 ⟨(Nat.zero_le _), (Nat.zero_le _)⟩ (fun r1 hr1 => ?_)
  obtain rfl : r1 = sta t d := hr1
  refine lv_bipush (v := 32) hx hb dX2_valueCell_8 (by decide) ?_
  refine lv_iadd hx hb dX2_valueCell_10 ?_
  refine lv_iload_n hx hb dX2_valueCell_11 rfl (lv_at hl 2 rfl) ?_
  refine lv_iadd hx hb dX2_valueCell_12 ?_
  exact reI hx hb hr hlocks dX2_valueCell_13 (by first | (simp only [pValCell, decide_true, decide_false, Bool.not_true, Bool.not_false, Bool.and_true, Bool.true_and, Bool.and_false, Bool.false_and, Bool.or_true, Bool.true_or, Bool.or_false, Bool.false_or, Bool.and_self, Bool.or_self, if_true, if_false, ite_true, ite_false, Bool.false_eq_true, reduceIte, not_true_eq_false, not_false_eq_true, and_true, true_and, and_false, false_and, or_true, true_or, or_false, false_or, and_self, or_self, eq_self, decide_eq_true_eq, Bool.true_eq_false, reduceCtorEq, ne_eq]; done) | (simp [pValCell]; done))
theorem hdX2_valueCell : yX2_valueCell.cls = RX2 ∧ yX2_valueCell.cls ≠ "java/lang/invoke/MethodHandle" ∧ yX2_valueCell.cls ≠ "java/lang/invoke/VarHandle" ∧ (parseMethodDescriptor yX2_valueCell.desc).map (fun d => d.parameters.length) = some 2 := by decide +kernel
set_option maxHeartbeats 4000000 in
set_option maxRecDepth 100000 in
theorem c_X2_alikeKeys (l : Launch) (D : va_G) (Y : Nat → ClassId) (ad : OA) (t : OS) (a : Int32) (b : Int32) (hok : oOK t) : Met l yX2_alikeKeys wsX2_alikeKeys ({ frames := 3, cells := 0, slots := 0, locals := 68 }) (rdPc D Y [.ref (oO ad), .int a, .int b] (oW Y ad t)) (vp_Si (fun ans => ans = bI (pAlikeKeys t a b))) 0 0 (fun _ => False) := by
  refine rdOf (cc := cX2_alikeKeys) (maxL := 3) (ret := (some .boolean)) (own := RX2) (by decide) rfl rfl (Nat.le_of_ble_eq_true rfl) ?_
  intro p e s m below meth c ls hx hb hr hts hown hml hlocks hP hK hl
  have hl : lv_has ls 3 [(0, .ref (oO ad)), (1, .int a), (2, .int b)] := hl
  refine lv_iload_n hx hb dX2_alikeKeys_0 rfl (lv_at hl 1 rfl) ?_
  refine lv_bipush (v := 100) hx hb dX2_alikeKeys_1 (by decide) ?_
  refine lv_icmp_ge (tgt := 12) hx hb dX2_alikeKeys_3 (by decide) (fun c1 => ?_) (fun c1 => ?_)
  · skip
    refine lv_iload_n hx hb dX2_alikeKeys_12 rfl (lv_at hl 1 rfl) ?_
    refine lv_iload_n hx hb dX2_alikeKeys_13 rfl (lv_at hl 2 rfl) ?_
    refine lv_icmp_ne (tgt := 21) hx hb dX2_alikeKeys_14 (by decide) (fun c2 => ?_) (fun c2 => ?_)
    · skip
      refine lv_iconst (v := 0) hx hb dX2_alikeKeys_21 (by decide) ?_
      exact reZ hx hb hr hlocks dX2_alikeKeys_22 (by first | exact Or.inl rfl | exact Or.inr rfl | exact bI_01 _ | (rename_i h9; rw [h9]; exact bI_01 _) | (subst_vars; exact bI_01 _)) (by first | (simp only [pAlikeKeys, bI, c1, c2, decide_true, decide_false, Bool.not_true, Bool.not_false, Bool.and_true, Bool.true_and, Bool.and_false, Bool.false_and, Bool.or_true, Bool.true_or, Bool.or_false, Bool.false_or, Bool.and_self, Bool.or_self, if_true, if_false, ite_true, ite_false, Bool.false_eq_true, reduceIte, not_true_eq_false, not_false_eq_true, and_true, true_and, and_false, false_and, or_true, true_or, or_false, false_or, and_self, or_self, eq_self, decide_eq_true_eq, Bool.true_eq_false, reduceCtorEq, ne_eq]; done) | (simp [pAlikeKeys, bI, c1, c2, Int32.not_lt.mpr c1]; done))
    · skip
      refine lv_iconst (v := 1) hx hb dX2_alikeKeys_17 (by decide) ?_
      refine lv_goto (tgt := 22) hx hb dX2_alikeKeys_18 (by decide) ?_
      exact reZ hx hb hr hlocks dX2_alikeKeys_22 (by first | exact Or.inl rfl | exact Or.inr rfl | exact bI_01 _ | (rename_i h9; rw [h9]; exact bI_01 _) | (subst_vars; exact bI_01 _)) (by first | (simp only [pAlikeKeys, bI, c1, eq_true c2, decide_true, decide_false, Bool.not_true, Bool.not_false, Bool.and_true, Bool.true_and, Bool.and_false, Bool.false_and, Bool.or_true, Bool.true_or, Bool.or_false, Bool.false_or, Bool.and_self, Bool.or_self, if_true, if_false, ite_true, ite_false, Bool.false_eq_true, reduceIte, not_true_eq_false, not_false_eq_true, and_true, true_and, and_false, false_and, or_true, true_or, or_false, false_or, and_self, or_self, eq_self, decide_eq_true_eq, Bool.true_eq_false, reduceCtorEq, ne_eq]; done) | (simp [pAlikeKeys, bI, c1, eq_true c2, Int32.not_lt.mpr c1]; done))
  · skip
    refine lv_iload_n hx hb dX2_alikeKeys_6 rfl (lv_at hl 2 rfl) ?_
    refine lv_bipush (v := 100) hx hb dX2_alikeKeys_7 (by decide) ?_
    refine lv_icmp_lt (tgt := 23) hx hb dX2_alikeKeys_9 (by decide) (fun c3 => ?_) (fun c3 => ?_)
    · skip
      refine lv_aload_n hx hb dX2_alikeKeys_23 rfl (lv_at hl 0 rfl) ?_
      refine lv_iload_n hx hb dX2_alikeKeys_24 rfl (lv_at hl 1 rfl) ?_
      refine lv_iload_n hx hb dX2_alikeKeys_25 rfl (lv_at hl 2 rfl) ?_
      refine rcI (As := [.int a, .int b]) (rest := []) ⟨hx, hb, hml, hown, hts⟩ (c_X2_alikeButStrings l D Y ad t a b hok) (cwV 2 hts gX2_alikeKeys_X2_alikeButStrings rfl rfl rfl hdX2_alikeButStrings ⟨Nat.le_of_ble_eq_true rfl, Nat.le_of_ble_eq_true rfl⟩) hP hK 0 3 rfl rfl rfl hl.1 rfl (Nat.le_of_ble_eq_true rfl) dX2_alikeKeys_26 ⟨(Nat.zero_le _), (Nat.zero_le _)⟩ (fun r4 hr4 => ?_)
      replace hr4 : r4 = bI (pAlikeB t a b) := hr4
      cases b5 : pAlikeB t a b
      · replace hr4 : r4 = 0 := by rw [hr4, b5]; rfl
        subst hr4
        exact reZ hx hb hr hlocks dX2_alikeKeys_29 (by first | exact Or.inl rfl | exact Or.inr rfl | exact bI_01 _ | (rename_i h9; rw [h9]; exact bI_01 _) | (subst_vars; exact bI_01 _)) (by first | (simp only [pAlikeKeys, bI, c1, c3, b5, decide_true, decide_false, Bool.not_true, Bool.not_false, Bool.and_true, Bool.true_and, Bool.and_false, Bool.false_and, Bool.or_true, Bool.true_or, Bool.or_false, Bool.false_or, Bool.and_self, Bool.or_self, if_true, if_false, ite_true, ite_false, Bool.false_eq_true, reduceIte, not_true_eq_false, not_false_eq_true, and_true, true_and, and_false, false_and, or_true, true_or, or_false, false_or, and_self, or_self, eq_self, decide_eq_true_eq, Bool.true_eq_false, reduceCtorEq, ne_eq]; done) | (simp [pAlikeKeys, bI, c1, c3, b5, Int32.not_le.mp c1, Int32.not_le.mpr c3]; done))
      · replace hr4 : r4 = 1 := by rw [hr4, b5]; rfl
        subst hr4
        exact reZ hx hb hr hlocks dX2_alikeKeys_29 (by first | exact Or.inl rfl | exact Or.inr rfl | exact bI_01 _ | (rename_i h9; rw [h9]; exact bI_01 _) | (subst_vars; exact bI_01 _)) (by first | (simp only [pAlikeKeys, bI, c1, c3, b5, decide_true, decide_false, Bool.not_true, Bool.not_false, Bool.and_true, Bool.true_and, Bool.and_false, Bool.false_and, Bool.or_true, Bool.true_or, Bool.or_false, Bool.false_or, Bool.and_self, Bool.or_self, if_true, if_false, ite_true, ite_false, Bool.false_eq_true, reduceIte, not_true_eq_false, not_false_eq_true, and_true, true_and, and_false, false_and, or_true, true_or, or_false, false_or, and_self, or_self, eq_self, decide_eq_true_eq, Bool.true_eq_false, reduceCtorEq, ne_eq]; done) | (simp [pAlikeKeys, bI, c1, c3, b5, Int32.not_le.mp c1, Int32.not_le.mpr c3]; done))
    · skip
      refine lv_iload_n hx hb dX2_alikeKeys_12 rfl (lv_at hl 1 rfl) ?_
      refine lv_iload_n hx hb dX2_alikeKeys_13 rfl (lv_at hl 2 rfl) ?_
      refine lv_icmp_ne (tgt := 21) hx hb dX2_alikeKeys_14 (by decide) (fun c6 => ?_) (fun c6 => ?_)
      · skip
        refine lv_iconst (v := 0) hx hb dX2_alikeKeys_21 (by decide) ?_
        exact reZ hx hb hr hlocks dX2_alikeKeys_22 (by first | exact Or.inl rfl | exact Or.inr rfl | exact bI_01 _ | (rename_i h9; rw [h9]; exact bI_01 _) | (subst_vars; exact bI_01 _)) (by first | (simp only [pAlikeKeys, bI, c1, c3, c6, decide_true, decide_false, Bool.not_true, Bool.not_false, Bool.and_true, Bool.true_and, Bool.and_false, Bool.false_and, Bool.or_true, Bool.true_or, Bool.or_false, Bool.false_or, Bool.and_self, Bool.or_self, if_true, if_false, ite_true, ite_false, Bool.false_eq_true, reduceIte, not_true_eq_false, not_false_eq_true, and_true, true_and, and_false, false_and, or_true, true_or, or_false, false_or, and_self, or_self, eq_self, decide_eq_true_eq, Bool.true_eq_false, reduceCtorEq, ne_eq]; done) | (simp [pAlikeKeys, bI, c1, c3, c6, Int32.not_le.mp c1, Int32.not_lt.mp c3]; done))
      · skip
        refine lv_iconst (v := 1) hx hb dX2_alikeKeys_17 (by decide) ?_
        refine lv_goto (tgt := 22) hx hb dX2_alikeKeys_18 (by decide) ?_
        exact reZ hx hb hr hlocks dX2_alikeKeys_22 (by first | exact Or.inl rfl | exact Or.inr rfl | exact bI_01 _ | (rename_i h9; rw [h9]; exact bI_01 _) | (subst_vars; exact bI_01 _)) (by first | (simp only [pAlikeKeys, bI, c1, c3, eq_true c6, decide_true, decide_false, Bool.not_true, Bool.not_false, Bool.and_true, Bool.true_and, Bool.and_false, Bool.false_and, Bool.or_true, Bool.true_or, Bool.or_false, Bool.false_or, Bool.and_self, Bool.or_self, if_true, if_false, ite_true, ite_false, Bool.false_eq_true, reduceIte, not_true_eq_false, not_false_eq_true, and_true, true_and, and_false, false_and, or_true, true_or, or_false, false_or, and_self, or_self, eq_self, decide_eq_true_eq, Bool.true_eq_false, reduceCtorEq, ne_eq]; done) | (simp [pAlikeKeys, bI, c1, c3, eq_true c6, Int32.not_le.mp c1, Int32.not_lt.mp c3]; done))
theorem hdX2_alikeKeys : yX2_alikeKeys.cls = RX2 ∧ yX2_alikeKeys.cls ≠ "java/lang/invoke/MethodHandle" ∧ yX2_alikeKeys.cls ≠ "java/lang/invoke/VarHandle" ∧ (parseMethodDescriptor yX2_alikeKeys.desc).map (fun d => d.parameters.length) = some 2 := by decide +kernel
set_option maxHeartbeats 4000000 in
set_option maxRecDepth 100000 in
theorem c_X2_kind (l : Launch) (D : va_G) (Y : Nat → ClassId) (ad : OA) (t : OS) (x : Int32) (hok : oOK t) : Met l yX2_kind wsX2_kind ({ frames := 1, cells := 0, slots := 0, locals := 21 }) (rdPc D Y [.ref (oO ad), .int x] (oW Y ad t)) (vp_Si (fun ans => ans = pKind t x)) 0 0 (fun _ => False) := by
  refine rdOf (cc := cX2_kind) (maxL := 2) (ret := (some .int)) (own := RX2) (by decide) rfl rfl (Nat.le_of_ble_eq_true rfl) ?_
  intro p e s m below meth c ls hx hb hr hts hown hml hlocks hP hK hl
  have iwX2 : ∀ w ∈ u_ws RX2 TX2 10, w ∈ wsX2_kind := fun _ h => List.mem_cons_of_mem _ (List.mem_append_left _ (List.mem_append_right _ h))
  have hl : lv_has ls 2 [(0, .ref (oO ad)), (1, .int x)] := hl
  refine lv_aload_n hx hb dX2_kind_0 rfl (lv_at hl 0 rfl) ?_
  refine lv_iload_n hx hb dX2_kind_1 rfl (lv_at hl 1 rfl) ?_
  refine rcI (As := [.int x]) (rest := []) ⟨hx, hb, hml, hown, hts⟩ (c_X2_known l D Y ad t x hok) (cwV 1 hts gX2_kind_X2_known rfl rfl rfl hdX2_known ⟨Nat.le_of_ble_eq_true rfl, Nat.le_of_ble_eq_true rfl⟩) hP hK 0 3 rfl rfl rfl hl.1 rfl (Nat.le_of_ble_eq_true rfl) dX2_kind_2 ⟨(Nat.zero_le _), (Nat.zero_le _)⟩ (fun r1 hr1 => ?_)
  replace hr1 : r1 = bI (pKnown t x) := hr1
  cases b2 : pKnown t x
  · replace hr1 : r1 = 0 := by rw [hr1, b2]; rfl
    subst hr1
    refine lv_if_eq (tgt := 19) hx hb dX2_kind_5 (by decide) (fun _ => ?_) (fun c3 => absurd (by decide) c3)
    refine lv_iconst (v := (-1)) hx hb dX2_kind_19 (by decide) ?_
    exact reI hx hb hr hlocks dX2_kind_20 (by first | (simp only [pKind, b2, decide_true, decide_false, Bool.not_true, Bool.not_false, Bool.and_true, Bool.true_and, Bool.and_false, Bool.false_and, Bool.or_true, Bool.true_or, Bool.or_false, Bool.false_or, Bool.and_self, Bool.or_self, if_true, if_false, ite_true, ite_false, Bool.false_eq_true, reduceIte, not_true_eq_false, not_false_eq_true, and_true, true_and, and_false, false_and, or_true, true_or, or_false, false_or, and_self, or_self, eq_self, decide_eq_true_eq, Bool.true_eq_false, reduceCtorEq, ne_eq]; done) | (simp [pKind, b2]; done))
  · replace hr1 : r1 = 1 := by rw [hr1, b2]; rfl
    subst hr1
    refine lv_if_eq (tgt := 19) hx hb dX2_kind_5 (by decide) (fun c4 => absurd c4 (by decide)) (fun _ => ?_)
    refine lv_aload_n hx hb dX2_kind_8 rfl (lv_at hl 0 rfl) ?_
    refine va_get (D := D) (ci := 3) (v := .ref (oH ad 0)) (C := RX2) (T := TX2) (N := 10) hx hb hts iwX2 hown hK hP 0 rfl rfl 0 (by decide) (hts (.fieldLink RX2 12 "ObjectRows" "kinds" "LObjectRows$Row;") (by decide +kernel)) (fun _ h9 => h9) rfl dX2_kind_9 ?_
    refine lv_iload_n hx hb dX2_kind_12 rfl (lv_at hl 1 rfl) ?_
    refine rcI (As := [.int x]) (rest := []) ⟨hx, hb, hml, hown, hts⟩ (c_X1_at l D Y (oH ad 0) (oR t 0) x (hok 0 (by decide))) (cwV 1 hts gX2_kind_X1_at rfl rfl rfl hdX1_at ⟨Nat.le_of_ble_eq_true rfl, Nat.le_of_ble_eq_true rfl⟩) (oWr0 hP) hK 0 2 rfl rfl rfl hl.1 rfl (Nat.le_of_ble_eq_true rfl) dX2_kind_13 ⟨(Nat.zero_le _), (Nat.zero_le _)⟩ (fun r5 hr5 => ?_)
    obtain rfl : r5 = kd t x := hr5
    refine lv_goto (tgt := 20) hx hb dX2_kind_16 (by decide) ?_
    exact reI hx hb hr hlocks dX2_kind_20 (by first | (simp only [pKind, b2, decide_true, decide_false, Bool.not_true, Bool.not_false, Bool.and_true, Bool.true_and, Bool.and_false, Bool.false_and, Bool.or_true, Bool.true_or, Bool.or_false, Bool.false_or, Bool.and_self, Bool.or_self, if_true, if_false, ite_true, ite_false, Bool.false_eq_true, reduceIte, not_true_eq_false, not_false_eq_true, and_true, true_and, and_false, false_and, or_true, true_or, or_false, false_or, and_self, or_self, eq_self, decide_eq_true_eq, Bool.true_eq_false, reduceCtorEq, ne_eq]; done) | (simp [pKind, b2]; done))
theorem hdX2_kind : yX2_kind.cls = RX2 ∧ yX2_kind.cls ≠ "java/lang/invoke/MethodHandle" ∧ yX2_kind.cls ≠ "java/lang/invoke/VarHandle" ∧ (parseMethodDescriptor yX2_kind.desc).map (fun d => d.parameters.length) = some 1 := by decide +kernel
set_option maxHeartbeats 4000000 in
set_option maxRecDepth 100000 in
theorem c_X2_used (l : Launch) (D : va_G) (Y : Nat → ClassId) (ad : OA) (t : OS)  (hok : oOK t) : Met l yX2_used wsX2_used ({ frames := 0, cells := 0, slots := 0, locals := 0 }) (rdPc D Y [.ref (oO ad)] (oW Y ad t)) (vp_Si (fun ans => ans = oSto t)) 0 0 (fun _ => False) := by
  refine rdOf (cc := cX2_used) (maxL := 1) (ret := (some .int)) (own := RX2) (by decide) rfl rfl (Nat.le_of_ble_eq_true rfl) ?_
  intro p e s m below meth c ls hx hb hr hts hown hml hlocks hP hK hl
  have iwX0 : ∀ w ∈ u_ws RX0 TX0 7, w ∈ wsX2_used := fun _ h => List.mem_cons_of_mem _ (List.mem_append_right _ h)
  have iwX2 : ∀ w ∈ u_ws RX2 TX2 10, w ∈ wsX2_used := fun _ h => List.mem_cons_of_mem _ (List.mem_append_left _ (List.mem_append_right _ h))
  have hl : lv_has ls 1 [(0, .ref (oO ad))] := hl
  refine lv_aload_n hx hb dX2_used_0 rfl (lv_at hl 0 rfl) ?_
  refine va_get (D := D) (ci := 3) (v := .ref (oNow ad)) (C := RX2) (T := TX2) (N := 10) hx hb hts iwX2 hown hK hP 0 rfl rfl 6 (by decide) (hts (.fieldLink RX2 34 "ObjectRows" "now" "LObjectRows$Changing;") (by decide +kernel)) (fun _ h9 => h9) rfl dX2_used_1 ?_
  refine va_get (D := D) (ci := 1) (v := .int (oSto t)) (C := RX0) (T := TX0) (N := 7) hx hb hts iwX0 hown hK hP 1 rfl rfl 6 (by decide) (hts (.fieldLink RX2 57 "ObjectRows$Changing" "storage" "I") (by decide +kernel)) (fun _ h9 => h9) rfl dX2_used_4 ?_
  exact reI hx hb hr hlocks dX2_used_7 (by rfl)
theorem hdX2_used : yX2_used.cls = RX2 ∧ yX2_used.cls ≠ "java/lang/invoke/MethodHandle" ∧ yX2_used.cls ≠ "java/lang/invoke/VarHandle" ∧ (parseMethodDescriptor yX2_used.desc).map (fun d => d.parameters.length) = some 0 := by decide +kernel
set_option maxHeartbeats 4000000 in
set_option maxRecDepth 100000 in
theorem c_X2_orderOfBytes (l : Launch) (D : va_G) (Y : Nat → ClassId) (ad : OA) (t : OS) (a : Int32) (b : Int32) (hok : oOK t) : Met l yX2_orderOfBytes wsX2_orderOfBytes ({ frames := 2, cells := 0, slots := 0, locals := 43 }) (rdPc D Y [.ref (oO ad), .int a, .int b] (oW Y ad t)) (vp_Si (fun ans => ans = pOrdB t a b)) 0 0 (fun _ => False) := by
  refine rdOf (cc := cX2_orderOfBytes) (maxL := 6) (ret := (some .int)) (own := RX2) (by decide) rfl rfl (Nat.le_of_ble_eq_true rfl) ?_
  intro p e s m below meth c ls hx hb hr hts hown hml hlocks hP hK hl
  have iwX2 : ∀ w ∈ u_ws RX2 TX2 10, w ∈ wsX2_orderOfBytes := fun _ h => List.mem_cons_of_mem _ (List.mem_append_left _ (List.mem_append_left _ (List.mem_append_right _ h)))
  have hl : lv_has ls 6 [(0, .ref (oO ad)), (1, .int a), (2, .int b)] := hl
  refine lv_aload_n hx hb dX2_orderOfBytes_0 rfl (lv_at hl 0 rfl) ?_
  refine va_get (D := D) (ci := 3) (v := .ref (oH ad 4)) (C := RX2) (T := TX2) (N := 10) hx hb hts iwX2 hown hK hP 0 rfl rfl 4 (by decide) (hts (.fieldLink RX2 25 "ObjectRows" "lengths" "LObjectRows$Row;") (by decide +kernel)) (fun _ h9 => h9) rfl dX2_orderOfBytes_1 ?_
  refine lv_iload_n hx hb dX2_orderOfBytes_4 rfl (lv_at hl 1 rfl) ?_
  refine rcI (As := [.int a]) (rest := []) ⟨hx, hb, hml, hown, hts⟩ (c_X1_at l D Y (oH ad 4) (oR t 4) a (hok 4 (by decide))) (cwV 1 hts gX2_orderOfBytes_X1_at rfl rfl rfl hdX1_at ⟨Nat.le_of_ble_eq_true rfl, Nat.le_of_ble_eq_true rfl⟩) (oWr4 hP) hK 0 2 rfl rfl rfl hl.1 rfl (Nat.le_of_ble_eq_true rfl) dX2_orderOfBytes_5 ⟨(Nat.zero_le _), (Nat.zero_le _)⟩ (fun r1 hr1 => ?_)
  obtain rfl : r1 = len t a := hr1
  refine lv_aload_n hx hb dX2_orderOfBytes_8 rfl (lv_at hl 0 rfl) ?_
  refine va_get (D := D) (ci := 3) (v := .ref (oH ad 4)) (C := RX2) (T := TX2) (N := 10) hx hb hts iwX2 hown hK hP 0 rfl rfl 4 (by decide) (hts (.fieldLink RX2 25 "ObjectRows" "lengths" "LObjectRows$Row;") (by decide +kernel)) (fun _ h9 => h9) rfl dX2_orderOfBytes_9 ?_
  refine lv_iload_n hx hb dX2_orderOfBytes_12 rfl (lv_at hl 2 rfl) ?_
  refine rcI (As := [.int b]) (rest := [.int (len t a)]) ⟨hx, hb, hml, hown, hts⟩ (c_X1_at l D Y (oH ad 4) (oR t 4) b (hok 4 (by decide))) (cwV 1 hts gX2_orderOfBytes_X1_at rfl rfl rfl hdX1_at ⟨Nat.le_of_ble_eq_true rfl, Nat.le_of_ble_eq_true rfl⟩) (oWr4 hP) hK 0 2 rfl rfl rfl hl.1 rfl (Nat.le_of_ble_eq_true rfl) dX2_orderOfBytes_13 ⟨(Nat.zero_le _), (Nat.zero_le _)⟩ (fun r2 hr2 => ?_)
  obtain rfl : r2 = len t b := hr2
  refine va_mmin hx hb (hml.trans hl.1.symm) hown (hts (.methodLink RX2 186 Lib.Math.min.name) (by decide +kernel)) (hts (.static Lib.Math.min.name) (by decide +kernel)) (hts (.initialized "java/lang/Math") (by decide +kernel)) (hts (.code Lib.Math.min.name Lib.Math.min.code 2 (some .int)) (by decide +kernel)) (Nat.le_of_ble_eq_true rfl) (Nat.le_of_ble_eq_true rfl) (Nat.zero_le _) (Nat.zero_le _) dX2_orderOfBytes_16 ?_
  refine lv_istore_n (lv' := [(3, .int (pMinL t a b)), (0, .ref (oO ad)), (1, .int a), (2, .int b)]) hx hb dX2_orderOfBytes_19 rfl hl (by decide) rfl (fun ls hl => ?_)
  refine lv_iconst (v := 0) hx hb dX2_orderOfBytes_20 (by decide) ?_
  refine lv_istore (lv' := [(4, .int 0), (3, .int (pMinL t a b)), (0, .ref (oO ad)), (1, .int a), (2, .int b)]) hx hb dX2_orderOfBytes_21 hl (by decide) rfl (fun ls hl => ?_)
  have LP : ∀ (n : Nat) (z : Int32), ((pMinL t a b).toInt - z.toInt).toNat < n → pOrdL t a b n z = pOrdB t a b → ∀ ls : Array Slot, lv_has ls 6 [(4, .int z), (3, .int (pMinL t a b)), (0, .ref (oO ad)), (1, .int a), (2, .int b)] → W p l e ({ frames := 2, cells := 0, slots := 0, locals := 43 }) s m ([.ref (oO ad), .int a, .int b] : List Value).toArray below meth c s.heap [] 0 0 (MQ below (vp_Si (fun ans => ans = pOrdB t a b)) ([.ref (oO ad), .int a, .int b] : List Value).toArray s 0 0 (fun _ => False)) (F0 m 23 ls []) := by
    intro n
    induction n with
    | zero => intro z h9; exact absurd h9 (Nat.not_lt_zero _)
    | succ n ih =>
      intro z hz hv ls hl
      refine lv_iload hx hb dX2_orderOfBytes_23 (lv_at hl 0 rfl) ?_
      refine lv_iload_n hx hb dX2_orderOfBytes_25 rfl (lv_at hl 1 rfl) ?_
      refine lv_icmp_ge (tgt := 63) hx hb dX2_orderOfBytes_26 (by decide) (fun c3 => ?_) (fun c3 => ?_)
      · skip
        refine lv_aload_n hx hb dX2_orderOfBytes_63 rfl (lv_at hl 2 rfl) ?_
        refine va_get (D := D) (ci := 3) (v := .ref (oH ad 4)) (C := RX2) (T := TX2) (N := 10) hx hb hts iwX2 hown hK hP 0 rfl rfl 4 (by decide) (hts (.fieldLink RX2 25 "ObjectRows" "lengths" "LObjectRows$Row;") (by decide +kernel)) (fun _ h9 => h9) rfl dX2_orderOfBytes_64 ?_
        refine lv_iload_n hx hb dX2_orderOfBytes_67 rfl (lv_at hl 3 rfl) ?_
        refine rcI (As := [.int a]) (rest := []) ⟨hx, hb, hml, hown, hts⟩ (c_X1_at l D Y (oH ad 4) (oR t 4) a (hok 4 (by decide))) (cwV 1 hts gX2_orderOfBytes_X1_at rfl rfl rfl hdX1_at ⟨Nat.le_of_ble_eq_true rfl, Nat.le_of_ble_eq_true rfl⟩) (oWr4 hP) hK 0 2 rfl rfl rfl hl.1 rfl (Nat.le_of_ble_eq_true rfl) dX2_orderOfBytes_68 ⟨(Nat.zero_le _), (Nat.zero_le _)⟩ (fun r4 hr4 => ?_)
        obtain rfl : r4 = len t a := hr4
        refine lv_aload_n hx hb dX2_orderOfBytes_71 rfl (lv_at hl 2 rfl) ?_
        refine va_get (D := D) (ci := 3) (v := .ref (oH ad 4)) (C := RX2) (T := TX2) (N := 10) hx hb hts iwX2 hown hK hP 0 rfl rfl 4 (by decide) (hts (.fieldLink RX2 25 "ObjectRows" "lengths" "LObjectRows$Row;") (by decide +kernel)) (fun _ h9 => h9) rfl dX2_orderOfBytes_72 ?_
        refine lv_iload_n hx hb dX2_orderOfBytes_75 rfl (lv_at hl 4 rfl) ?_
        refine rcI (As := [.int b]) (rest := [.int (len t a)]) ⟨hx, hb, hml, hown, hts⟩ (c_X1_at l D Y (oH ad 4) (oR t 4) b (hok 4 (by decide))) (cwV 1 hts gX2_orderOfBytes_X1_at rfl rfl rfl hdX1_at ⟨Nat.le_of_ble_eq_true rfl, Nat.le_of_ble_eq_true rfl⟩) (oWr4 hP) hK 0 2 rfl rfl rfl hl.1 rfl (Nat.le_of_ble_eq_true rfl) dX2_orderOfBytes_76 ⟨(Nat.zero_le _), (Nat.zero_le _)⟩ (fun r5 hr5 => ?_)
        obtain rfl : r5 = len t b := hr5
        refine scI (As := [.int (len t a), .int (len t b)]) (rest := []) ⟨hx, hb, hml, hown, hts⟩ (c_X2_order l (len t a) (len t b)) (va_cwS 2 hts gX2_orderOfBytes_X2_order rfl rfl rfl hdX2_order ⟨Nat.le_of_ble_eq_true rfl, Nat.le_of_ble_eq_true rfl⟩) rfl hl.1 rfl (Nat.le_of_ble_eq_true rfl) dX2_orderOfBytes_79 ⟨(Nat.zero_le _), (Nat.zero_le _)⟩ (fun r6 hr6 => ?_)
        obtain rfl : r6 = pOrder (len t a) (len t b) := hr6
        exact reI hx hb hr hlocks dX2_orderOfBytes_82 (by first | (rw [← hv]; simp only [pOrdL, c3, decide_true, decide_false, Bool.not_true, Bool.not_false, Bool.and_true, Bool.true_and, Bool.and_false, Bool.false_and, Bool.or_true, Bool.true_or, Bool.or_false, Bool.false_or, Bool.and_self, Bool.or_self, if_true, if_false, ite_true, ite_false, Bool.false_eq_true, reduceIte, not_true_eq_false, not_false_eq_true, and_true, true_and, and_false, false_and, or_true, true_or, or_false, false_or, and_self, or_self, eq_self, decide_eq_true_eq, Bool.true_eq_false, reduceCtorEq, ne_eq]; done) | (rw [← hv]; simp [pOrdL, c3, Int32.not_lt.mpr c3]; done))
      · skip
        refine lv_aload_n hx hb dX2_orderOfBytes_29 rfl (lv_at hl 2 rfl) ?_
        refine lv_iload_n hx hb dX2_orderOfBytes_30 rfl (lv_at hl 3 rfl) ?_
        refine lv_iload hx hb dX2_orderOfBytes_31 (lv_at hl 0 rfl) ?_
        refine rcI (As := [.int a, .int z]) (rest := []) ⟨hx, hb, hml, hown, hts⟩ (c_X2_elementOf l D Y ad t a z hok) (cwV 2 hts gX2_orderOfBytes_X2_elementOf rfl rfl rfl hdX2_elementOf ⟨Nat.le_of_ble_eq_true rfl, Nat.le_of_ble_eq_true rfl⟩) hP hK 0 3 rfl rfl rfl hl.1 rfl (Nat.le_of_ble_eq_true rfl) dX2_orderOfBytes_33 ⟨(Nat.zero_le _), (Nat.zero_le _)⟩ (fun r7 hr7 => ?_)
        obtain rfl : r7 = pEl t a z := hr7
        refine lv_aload_n hx hb dX2_orderOfBytes_36 rfl (lv_at hl 2 rfl) ?_
        refine lv_iload_n hx hb dX2_orderOfBytes_37 rfl (lv_at hl 4 rfl) ?_
        refine lv_iload hx hb dX2_orderOfBytes_38 (lv_at hl 0 rfl) ?_
        refine rcI (As := [.int b, .int z]) (rest := [.int (pEl t a z)]) ⟨hx, hb, hml, hown, hts⟩ (c_X2_elementOf l D Y ad t b z hok) (cwV 2 hts gX2_orderOfBytes_X2_elementOf rfl rfl rfl hdX2_elementOf ⟨Nat.le_of_ble_eq_true rfl, Nat.le_of_ble_eq_true rfl⟩) hP hK 0 3 rfl rfl rfl hl.1 rfl (Nat.le_of_ble_eq_true rfl) dX2_orderOfBytes_40 ⟨(Nat.zero_le _), (Nat.zero_le _)⟩ (fun r8 hr8 => ?_)
        obtain rfl : r8 = pEl t b z := hr8
        refine scI (As := [.int (pEl t a z), .int (pEl t b z)]) (rest := []) ⟨hx, hb, hml, hown, hts⟩ (c_X2_order l (pEl t a z) (pEl t b z)) (va_cwS 2 hts gX2_orderOfBytes_X2_order rfl rfl rfl hdX2_order ⟨Nat.le_of_ble_eq_true rfl, Nat.le_of_ble_eq_true rfl⟩) rfl hl.1 rfl (Nat.le_of_ble_eq_true rfl) dX2_orderOfBytes_43 ⟨(Nat.zero_le _), (Nat.zero_le _)⟩ (fun r9 hr9 => ?_)
        obtain rfl : r9 = pOrder (pEl t a z) (pEl t b z) := hr9
        refine lv_istore (lv' := [(5, .int (pOrder (pEl t a z) (pEl t b z))), (4, .int z), (3, .int (pMinL t a b)), (0, .ref (oO ad)), (1, .int a), (2, .int b)]) hx hb dX2_orderOfBytes_46 hl (by decide) rfl (fun ls hl => ?_)
        refine lv_iload hx hb dX2_orderOfBytes_48 (lv_at hl 0 rfl) ?_
        refine lv_iconst (v := 1) hx hb dX2_orderOfBytes_50 (by decide) ?_
        refine lv_icmp_eq (tgt := 57) hx hb dX2_orderOfBytes_51 (by decide) (fun c10 => ?_) (fun c10 => ?_)
        · skip
          obtain ⟨z11, ez11⟩ : ∃ y : Int32, y = z + 1 := ⟨_, rfl⟩
          refine lv_iinc (v := z11) (lv' := [(4, .int z11), (5, .int (pOrder (pEl t a z) (pEl t b z))), (3, .int (pMinL t a b)), (0, .ref (oO ad)), (1, .int a), (2, .int b)]) hx hb dX2_orderOfBytes_57 hl (k := 1) rfl (by rw [ez11]; rfl) (by decide) rfl (fun ls hl => ?_)
          refine lv_goto (tgt := 23) hx hb dX2_orderOfBytes_60 (by decide) ?_
          exact ih z11 (mstep c3 hz ez11) (by first | (rw [← hv]; simp only [pOrdL, c3, c10, ez11, decide_true, decide_false, Bool.not_true, Bool.not_false, Bool.and_true, Bool.true_and, Bool.and_false, Bool.false_and, Bool.or_true, Bool.true_or, Bool.or_false, Bool.false_or, Bool.and_self, Bool.or_self, if_true, if_false, ite_true, ite_false, Bool.false_eq_true, reduceIte, not_true_eq_false, not_false_eq_true, and_true, true_and, and_false, false_and, or_true, true_or, or_false, false_or, and_self, or_self, eq_self, decide_eq_true_eq, Bool.true_eq_false, reduceCtorEq, ne_eq]; done) | (rw [← hv]; simp [pOrdL, c3, c10, ez11, Int32.not_le.mp c3]; done) | (rw [← hv]; simp only [pOrdL, c3, eq_true c10, ez11, decide_true, decide_false, Bool.not_true, Bool.not_false, Bool.and_true, Bool.true_and, Bool.and_false, Bool.false_and, Bool.or_true, Bool.true_or, Bool.or_false, Bool.false_or, Bool.and_self, Bool.or_self, if_true, if_false, ite_true, ite_false, Bool.false_eq_true, reduceIte, not_true_eq_false, not_false_eq_true, and_true, true_and, and_false, false_and, or_true, true_or, or_false, false_or, and_self, or_self, eq_self, decide_eq_true_eq, Bool.true_eq_false, reduceCtorEq, ne_eq]; done) | (rw [← hv]; simp [pOrdL, c3, eq_true c10, ez11, Int32.not_le.mp c3]; done)) ls (lv_sub hl [0, 2, 3, 4, 5] rfl)
        · skip
          refine lv_iload hx hb dX2_orderOfBytes_54 (lv_at hl 0 rfl) ?_
          exact reI hx hb hr hlocks dX2_orderOfBytes_56 (by first | (rw [← hv]; simp only [pOrdL, c3, c10, decide_true, decide_false, Bool.not_true, Bool.not_false, Bool.and_true, Bool.true_and, Bool.and_false, Bool.false_and, Bool.or_true, Bool.true_or, Bool.or_false, Bool.false_or, Bool.and_self, Bool.or_self, if_true, if_false, ite_true, ite_false, Bool.false_eq_true, reduceIte, not_true_eq_false, not_false_eq_true, and_true, true_and, and_false, false_and, or_true, true_or, or_false, false_or, and_self, or_self, eq_self, decide_eq_true_eq, Bool.true_eq_false, reduceCtorEq, ne_eq]; done) | (rw [← hv]; simp [pOrdL, c3, c10, Int32.not_le.mp c3]; done))
  exact LP ((pMinL t a b).toInt.toNat + 1) 0 (by rw [show ((0 : Int32)).toInt = 0 from rfl]; omega) (by rfl) ls (lv_sub hl [0, 1, 2, 3, 4] rfl)
theorem hdX2_orderOfBytes : yX2_orderOfBytes.cls = RX2 ∧ yX2_orderOfBytes.cls ≠ "java/lang/invoke/MethodHandle" ∧ yX2_orderOfBytes.cls ≠ "java/lang/invoke/VarHandle" ∧ (parseMethodDescriptor yX2_orderOfBytes.desc).map (fun d => d.parameters.length) = some 2 := by decide +kernel
set_option maxHeartbeats 4000000 in
set_option maxRecDepth 100000 in
theorem c_X2_numberInTens (l : Launch) (D : va_G) (Y : Nat → ClassId) (ad : OA) (t : OS) (x : Int32) (hok : oOK t) : Met l yX2_numberInTens wsX2_numberInTens ({ frames := 2, cells := 0, slots := 0, locals := 43 }) (rdPc D Y [.ref (oO ad), .int x] (oW Y ad t)) (vp_Si (fun ans => ans = pTens t x)) 0 0 (fun _ => False) := by
  refine rdOf (cc := cX2_numberInTens) (maxL := 7) (ret := (some .int)) (own := RX2) (by decide) rfl rfl (Nat.le_of_ble_eq_true rfl) ?_
  intro p e s m below meth c ls hx hb hr hts hown hml hlocks hP hK hl
  have iwX2 : ∀ w ∈ u_ws RX2 TX2 10, w ∈ wsX2_numberInTens := fun _ h => List.mem_cons_of_mem _ (List.mem_append_left _ (List.mem_append_left _ (List.mem_append_right _ h)))
  have hl : lv_has ls 7 [(0, .ref (oO ad)), (1, .int x)] := hl
  refine lv_aload_n hx hb dX2_numberInTens_0 rfl (lv_at hl 0 rfl) ?_
  refine va_get (D := D) (ci := 3) (v := .ref (oH ad 4)) (C := RX2) (T := TX2) (N := 10) hx hb hts iwX2 hown hK hP 0 rfl rfl 4 (by decide) (hts (.fieldLink RX2 25 "ObjectRows" "lengths" "LObjectRows$Row;") (by decide +kernel)) (fun _ h9 => h9) rfl dX2_numberInTens_1 ?_
  refine lv_iload_n hx hb dX2_numberInTens_4 rfl (lv_at hl 1 rfl) ?_
  refine rcI (As := [.int x]) (rest := []) ⟨hx, hb, hml, hown, hts⟩ (c_X1_at l D Y (oH ad 4) (oR t 4) x (hok 4 (by decide))) (cwV 1 hts gX2_numberInTens_X1_at rfl rfl rfl hdX1_at ⟨Nat.le_of_ble_eq_true rfl, Nat.le_of_ble_eq_true rfl⟩) (oWr4 hP) hK 0 2 rfl rfl rfl hl.1 rfl (Nat.le_of_ble_eq_true rfl) dX2_numberInTens_5 ⟨(Nat.zero_le _), (Nat.zero_le _)⟩ (fun r1 hr1 => ?_)
  obtain rfl : r1 = len t x := hr1
  refine lv_istore_n (lv' := [(2, .int (len t x)), (0, .ref (oO ad)), (1, .int x)]) hx hb dX2_numberInTens_8 rfl hl (by decide) rfl (fun ls hl => ?_)
  refine lv_iload_n hx hb dX2_numberInTens_9 rfl (lv_at hl 0 rfl) ?_
  refine lv_iconst (v := 1) hx hb dX2_numberInTens_10 (by decide) ?_
  refine lv_icmp_lt (tgt := 19) hx hb dX2_numberInTens_11 (by decide) (fun c2 => ?_) (fun c2 => ?_)
  · skip
    refine lv_iconst (v := (-1)) hx hb dX2_numberInTens_19 (by decide) ?_
    exact reI hx hb hr hlocks dX2_numberInTens_20 (by first | (simp only [pTens, c2, decide_true, decide_false, Bool.not_true, Bool.not_false, Bool.and_true, Bool.true_and, Bool.and_false, Bool.false_and, Bool.or_true, Bool.true_or, Bool.or_false, Bool.false_or, Bool.and_self, Bool.or_self, if_true, if_false, ite_true, ite_false, Bool.false_eq_true, reduceIte, not_true_eq_false, not_false_eq_true, and_true, true_and, and_false, false_and, or_true, true_or, or_false, false_or, and_self, or_self, eq_self, decide_eq_true_eq, Bool.true_eq_false, reduceCtorEq, ne_eq]; done) | (simp [pTens, c2, Int32.not_le.mpr c2]; done))
  · skip
    refine lv_iload_n hx hb dX2_numberInTens_14 rfl (lv_at hl 0 rfl) ?_
    refine lv_iconst (v := 3) hx hb dX2_numberInTens_15 (by decide) ?_
    refine lv_icmp_le (tgt := 21) hx hb dX2_numberInTens_16 (by decide) (fun c3 => ?_) (fun c3 => ?_)
    · skip
      refine lv_iconst (v := 0) hx hb dX2_numberInTens_21 (by decide) ?_
      refine lv_istore_n (lv' := [(3, .int 0), (2, .int (len t x)), (0, .ref (oO ad)), (1, .int x)]) hx hb dX2_numberInTens_22 rfl hl (by decide) rfl (fun ls hl => ?_)
      refine lv_iconst (v := 0) hx hb dX2_numberInTens_23 (by decide) ?_
      refine lv_istore (lv' := [(4, .int 0), (3, .int 0), (2, .int (len t x)), (0, .ref (oO ad)), (1, .int x)]) hx hb dX2_numberInTens_24 hl (by decide) rfl (fun ls hl => ?_)
      have LP : ∀ (n : Nat) (v z : Int32), ((len t x).toInt - z.toInt).toNat < n → pTenL t x n z v = pTens t x → ∀ ls : Array Slot, lv_has ls 7 [(4, .int z), (3, .int v), (2, .int (len t x)), (0, .ref (oO ad)), (1, .int x)] → W p l e ({ frames := 2, cells := 0, slots := 0, locals := 43 }) s m ([.ref (oO ad), .int x] : List Value).toArray below meth c s.heap [] 0 0 (MQ below (vp_Si (fun ans => ans = pTens t x)) ([.ref (oO ad), .int x] : List Value).toArray s 0 0 (fun _ => False)) (F0 m 26 ls []) := by
        intro n
        induction n with
        | zero => intro v z h9; exact absurd h9 (Nat.not_lt_zero _)
        | succ n ih =>
          intro v z hz hv ls hl
          refine lv_iload hx hb dX2_numberInTens_26 (lv_at hl 0 rfl) ?_
          refine lv_iload_n hx hb dX2_numberInTens_28 rfl (lv_at hl 2 rfl) ?_
          refine lv_icmp_ge (tgt := 91) hx hb dX2_numberInTens_29 (by decide) (fun c4 => ?_) (fun c4 => ?_)
          · skip
            refine lv_iload_n hx hb dX2_numberInTens_91 rfl (lv_at hl 1 rfl) ?_
            exact reI hx hb hr hlocks dX2_numberInTens_92 (by first | (rw [← hv]; simp only [pTenL, c4, decide_true, decide_false, Bool.not_true, Bool.not_false, Bool.and_true, Bool.true_and, Bool.and_false, Bool.false_and, Bool.or_true, Bool.true_or, Bool.or_false, Bool.false_or, Bool.and_self, Bool.or_self, if_true, if_false, ite_true, ite_false, Bool.false_eq_true, reduceIte, not_true_eq_false, not_false_eq_true, and_true, true_and, and_false, false_and, or_true, true_or, or_false, false_or, and_self, or_self, eq_self, decide_eq_true_eq, Bool.true_eq_false, reduceCtorEq, ne_eq]; done) | (rw [← hv]; simp [pTenL, c4, Int32.not_lt.mp c2, Int32.not_lt.mpr c3, Int32.not_lt.mpr c4]; done))
          · skip
            refine lv_aload_n hx hb dX2_numberInTens_32 rfl (lv_at hl 3 rfl) ?_
            refine lv_iload_n hx hb dX2_numberInTens_33 rfl (lv_at hl 4 rfl) ?_
            refine lv_iload hx hb dX2_numberInTens_34 (lv_at hl 0 rfl) ?_
            refine rcI (As := [.int x, .int z]) (rest := []) ⟨hx, hb, hml, hown, hts⟩ (c_X2_elementOf l D Y ad t x z hok) (cwV 2 hts gX2_numberInTens_X2_elementOf rfl rfl rfl hdX2_elementOf ⟨Nat.le_of_ble_eq_true rfl, Nat.le_of_ble_eq_true rfl⟩) hP hK 0 3 rfl rfl rfl hl.1 rfl (Nat.le_of_ble_eq_true rfl) dX2_numberInTens_36 ⟨(Nat.zero_le _), (Nat.zero_le _)⟩ (fun r5 hr5 => ?_)
            obtain rfl : r5 = pEl t x z := hr5
            refine lv_bipush (v := 48) hx hb dX2_numberInTens_39 (by decide) ?_
            refine lv_isub hx hb dX2_numberInTens_41 ?_
            refine lv_istore (lv' := [(5, .int ((pEl t x z) - 48)), (4, .int z), (3, .int v), (2, .int (len t x)), (0, .ref (oO ad)), (1, .int x)]) hx hb dX2_numberInTens_42 hl (by decide) rfl (fun ls hl => ?_)
            refine lv_iload hx hb dX2_numberInTens_44 (lv_at hl 1 rfl) ?_
            refine lv_if_le (tgt := 57) hx hb dX2_numberInTens_46 (by decide) (fun c6 => ?_) (fun c6 => ?_)
            · skip
              refine lv_iconst (v := 0) hx hb dX2_numberInTens_57 (by decide) ?_
              refine lv_istore (lv' := [(6, .int 0), (5, .int ((pEl t x z) - 48)), (4, .int z), (3, .int v), (2, .int (len t x)), (0, .ref (oO ad)), (1, .int x)]) hx hb dX2_numberInTens_58 hl (by decide) rfl (fun ls hl => ?_)
              refine lv_iload hx hb dX2_numberInTens_60 (lv_at hl 1 rfl) ?_
              refine lv_bipush (v := 9) hx hb dX2_numberInTens_62 (by decide) ?_
              refine scI (As := [.int ((pEl t x z) - 48), .int 9]) (rest := []) ⟨hx, hb, hml, hown, hts⟩ (c_X2_within l ((pEl t x z) - 48) 9) (va_cwS 2 hts gX2_numberInTens_X2_within rfl rfl rfl hdX2_within ⟨Nat.le_of_ble_eq_true rfl, Nat.le_of_ble_eq_true rfl⟩) rfl hl.1 rfl (Nat.le_of_ble_eq_true rfl) dX2_numberInTens_64 ⟨(Nat.zero_le _), (Nat.zero_le _)⟩ (fun r7 hr7 => ?_)
              replace hr7 : r7 = bI (pWithin ((pEl t x z) - 48) 9) := hr7
              cases b8 : pWithin ((pEl t x z) - 48) 9
              · replace hr7 : r7 = 0 := by rw [hr7, b8]; rfl
                subst hr7
                refine lv_if_eq (tgt := 75) hx hb dX2_numberInTens_67 (by decide) (fun _ => ?_) (fun c9 => absurd (by decide) c9)
                refine lv_iconst (v := (-1)) hx hb dX2_numberInTens_75 (by decide) ?_
                exact reI hx hb hr hlocks dX2_numberInTens_76 (by first | (rw [← hv]; simp only [pTenL, c4, c6, b8, decide_true, decide_false, Bool.not_true, Bool.not_false, Bool.and_true, Bool.true_and, Bool.and_false, Bool.false_and, Bool.or_true, Bool.true_or, Bool.or_false, Bool.false_or, Bool.and_self, Bool.or_self, if_true, if_false, ite_true, ite_false, Bool.false_eq_true, reduceIte, not_true_eq_false, not_false_eq_true, and_true, true_and, and_false, false_and, or_true, true_or, or_false, false_or, and_self, or_self, eq_self, decide_eq_true_eq, Bool.true_eq_false, reduceCtorEq, ne_eq]; done) | (rw [← hv]; simp [pTenL, c4, c6, b8, Int32.not_lt.mp c2, Int32.not_lt.mpr c3, Int32.not_le.mp c4, Int32.not_lt.mpr c6]; done))
              · replace hr7 : r7 = 1 := by rw [hr7, b8]; rfl
                subst hr7
                refine lv_if_eq (tgt := 75) hx hb dX2_numberInTens_67 (by decide) (fun c10 => absurd c10 (by decide)) (fun _ => ?_)
                refine lv_iload hx hb dX2_numberInTens_70 (lv_at hl 0 rfl) ?_
                refine lv_if_eq (tgt := 77) hx hb dX2_numberInTens_72 (by decide) (fun _ => ?_) (fun c11 => absurd (by decide) c11)
                refine lv_iload_n hx hb dX2_numberInTens_77 rfl (lv_at hl 3 rfl) ?_
                refine lv_bipush (v := 10) hx hb dX2_numberInTens_78 (by decide) ?_
                refine lv_imul hx hb dX2_numberInTens_80 ?_
                refine lv_iload hx hb dX2_numberInTens_81 (lv_at hl 1 rfl) ?_
                refine lv_iadd hx hb dX2_numberInTens_83 ?_
                refine lv_istore_n (lv' := [(3, .int ((v * 10) + ((pEl t x z) - 48))), (6, .int 0), (5, .int ((pEl t x z) - 48)), (4, .int z), (2, .int (len t x)), (0, .ref (oO ad)), (1, .int x)]) hx hb dX2_numberInTens_84 rfl hl (by decide) rfl (fun ls hl => ?_)
                obtain ⟨z12, ez12⟩ : ∃ y : Int32, y = z + 1 := ⟨_, rfl⟩
                refine lv_iinc (v := z12) (lv' := [(4, .int z12), (3, .int ((v * 10) + ((pEl t x z) - 48))), (6, .int 0), (5, .int ((pEl t x z) - 48)), (2, .int (len t x)), (0, .ref (oO ad)), (1, .int x)]) hx hb dX2_numberInTens_85 hl (k := 3) rfl (by rw [ez12]; rfl) (by decide) rfl (fun ls hl => ?_)
                refine lv_goto (tgt := 26) hx hb dX2_numberInTens_88 (by decide) ?_
                exact ih ((v * 10) + ((pEl t x z) - 48)) z12 (mstep c4 hz ez12) (by first | (rw [← hv]; simp only [pTenL, c4, c6, b8, ez12, decide_true, decide_false, Bool.not_true, Bool.not_false, Bool.and_true, Bool.true_and, Bool.and_false, Bool.false_and, Bool.or_true, Bool.true_or, Bool.or_false, Bool.false_or, Bool.and_self, Bool.or_self, if_true, if_false, ite_true, ite_false, Bool.false_eq_true, reduceIte, not_true_eq_false, not_false_eq_true, and_true, true_and, and_false, false_and, or_true, true_or, or_false, false_or, and_self, or_self, eq_self, decide_eq_true_eq, Bool.true_eq_false, reduceCtorEq, ne_eq]; done) | (rw [← hv]; simp [pTenL, c4, c6, b8, ez12, Int32.not_lt.mp c2, Int32.not_lt.mpr c3, Int32.not_le.mp c4, Int32.not_lt.mpr c6]; done)) ls (lv_sub hl [0, 1, 4, 5, 6] rfl)
            · skip
              refine lv_iload_n hx hb dX2_numberInTens_49 rfl (lv_at hl 2 rfl) ?_
              refine lv_if_ne (tgt := 57) hx hb dX2_numberInTens_50 (by decide) (fun c13 => ?_) (fun c13 => ?_)
              · skip
                refine lv_iconst (v := 0) hx hb dX2_numberInTens_57 (by decide) ?_
                refine lv_istore (lv' := [(6, .int 0), (5, .int ((pEl t x z) - 48)), (4, .int z), (3, .int v), (2, .int (len t x)), (0, .ref (oO ad)), (1, .int x)]) hx hb dX2_numberInTens_58 hl (by decide) rfl (fun ls hl => ?_)
                refine lv_iload hx hb dX2_numberInTens_60 (lv_at hl 1 rfl) ?_
                refine lv_bipush (v := 9) hx hb dX2_numberInTens_62 (by decide) ?_
                refine scI (As := [.int ((pEl t x z) - 48), .int 9]) (rest := []) ⟨hx, hb, hml, hown, hts⟩ (c_X2_within l ((pEl t x z) - 48) 9) (va_cwS 2 hts gX2_numberInTens_X2_within rfl rfl rfl hdX2_within ⟨Nat.le_of_ble_eq_true rfl, Nat.le_of_ble_eq_true rfl⟩) rfl hl.1 rfl (Nat.le_of_ble_eq_true rfl) dX2_numberInTens_64 ⟨(Nat.zero_le _), (Nat.zero_le _)⟩ (fun r14 hr14 => ?_)
                replace hr14 : r14 = bI (pWithin ((pEl t x z) - 48) 9) := hr14
                cases b15 : pWithin ((pEl t x z) - 48) 9
                · replace hr14 : r14 = 0 := by rw [hr14, b15]; rfl
                  subst hr14
                  refine lv_if_eq (tgt := 75) hx hb dX2_numberInTens_67 (by decide) (fun _ => ?_) (fun c16 => absurd (by decide) c16)
                  refine lv_iconst (v := (-1)) hx hb dX2_numberInTens_75 (by decide) ?_
                  exact reI hx hb hr hlocks dX2_numberInTens_76 (by first | (rw [← hv]; simp only [pTenL, c4, c6, c13, b15, decide_true, decide_false, Bool.not_true, Bool.not_false, Bool.and_true, Bool.true_and, Bool.and_false, Bool.false_and, Bool.or_true, Bool.true_or, Bool.or_false, Bool.false_or, Bool.and_self, Bool.or_self, if_true, if_false, ite_true, ite_false, Bool.false_eq_true, reduceIte, not_true_eq_false, not_false_eq_true, and_true, true_and, and_false, false_and, or_true, true_or, or_false, false_or, and_self, or_self, eq_self, decide_eq_true_eq, Bool.true_eq_false, reduceCtorEq, ne_eq]; done) | (rw [← hv]; simp [pTenL, c4, c6, c13, b15, Int32.not_lt.mp c2, Int32.not_lt.mpr c3, Int32.not_le.mp c4, Int32.not_le.mp c6]; done))
                · replace hr14 : r14 = 1 := by rw [hr14, b15]; rfl
                  subst hr14
                  refine lv_if_eq (tgt := 75) hx hb dX2_numberInTens_67 (by decide) (fun c17 => absurd c17 (by decide)) (fun _ => ?_)
                  refine lv_iload hx hb dX2_numberInTens_70 (lv_at hl 0 rfl) ?_
                  refine lv_if_eq (tgt := 77) hx hb dX2_numberInTens_72 (by decide) (fun _ => ?_) (fun c18 => absurd (by decide) c18)
                  refine lv_iload_n hx hb dX2_numberInTens_77 rfl (lv_at hl 3 rfl) ?_
                  refine lv_bipush (v := 10) hx hb dX2_numberInTens_78 (by decide) ?_
                  refine lv_imul hx hb dX2_numberInTens_80 ?_
                  refine lv_iload hx hb dX2_numberInTens_81 (lv_at hl 1 rfl) ?_
                  refine lv_iadd hx hb dX2_numberInTens_83 ?_
                  refine lv_istore_n (lv' := [(3, .int ((v * 10) + ((pEl t x z) - 48))), (6, .int 0), (5, .int ((pEl t x z) - 48)), (4, .int z), (2, .int (len t x)), (0, .ref (oO ad)), (1, .int x)]) hx hb dX2_numberInTens_84 rfl hl (by decide) rfl (fun ls hl => ?_)
                  obtain ⟨z19, ez19⟩ : ∃ y : Int32, y = z + 1 := ⟨_, rfl⟩
                  refine lv_iinc (v := z19) (lv' := [(4, .int z19), (3, .int ((v * 10) + ((pEl t x z) - 48))), (6, .int 0), (5, .int ((pEl t x z) - 48)), (2, .int (len t x)), (0, .ref (oO ad)), (1, .int x)]) hx hb dX2_numberInTens_85 hl (k := 3) rfl (by rw [ez19]; rfl) (by decide) rfl (fun ls hl => ?_)
                  refine lv_goto (tgt := 26) hx hb dX2_numberInTens_88 (by decide) ?_
                  exact ih ((v * 10) + ((pEl t x z) - 48)) z19 (mstep c4 hz ez19) (by first | (rw [← hv]; simp only [pTenL, c4, c6, c13, b15, ez19, decide_true, decide_false, Bool.not_true, Bool.not_false, Bool.and_true, Bool.true_and, Bool.and_false, Bool.false_and, Bool.or_true, Bool.true_or, Bool.or_false, Bool.false_or, Bool.and_self, Bool.or_self, if_true, if_false, ite_true, ite_false, Bool.false_eq_true, reduceIte, not_true_eq_false, not_false_eq_true, and_true, true_and, and_false, false_and, or_true, true_or, or_false, false_or, and_self, or_self, eq_self, decide_eq_true_eq, Bool.true_eq_false, reduceCtorEq, ne_eq]; done) | (rw [← hv]; simp [pTenL, c4, c6, c13, b15, ez19, Int32.not_lt.mp c2, Int32.not_lt.mpr c3, Int32.not_le.mp c4, Int32.not_le.mp c6]; done)) ls (lv_sub hl [0, 1, 4, 5, 6] rfl)
              · skip
                refine lv_iconst (v := 1) hx hb dX2_numberInTens_53 (by decide) ?_
                refine lv_goto (tgt := 58) hx hb dX2_numberInTens_54 (by decide) ?_
                refine lv_istore (lv' := [(6, .int 1), (5, .int ((pEl t x z) - 48)), (4, .int z), (3, .int v), (2, .int (len t x)), (0, .ref (oO ad)), (1, .int x)]) hx hb dX2_numberInTens_58 hl (by decide) rfl (fun ls hl => ?_)
                refine lv_iload hx hb dX2_numberInTens_60 (lv_at hl 1 rfl) ?_
                refine lv_bipush (v := 9) hx hb dX2_numberInTens_62 (by decide) ?_
                refine scI (As := [.int ((pEl t x z) - 48), .int 9]) (rest := []) ⟨hx, hb, hml, hown, hts⟩ (c_X2_within l ((pEl t x z) - 48) 9) (va_cwS 2 hts gX2_numberInTens_X2_within rfl rfl rfl hdX2_within ⟨Nat.le_of_ble_eq_true rfl, Nat.le_of_ble_eq_true rfl⟩) rfl hl.1 rfl (Nat.le_of_ble_eq_true rfl) dX2_numberInTens_64 ⟨(Nat.zero_le _), (Nat.zero_le _)⟩ (fun r20 hr20 => ?_)
                replace hr20 : r20 = bI (pWithin ((pEl t x z) - 48) 9) := hr20
                cases b21 : pWithin ((pEl t x z) - 48) 9
                · replace hr20 : r20 = 0 := by rw [hr20, b21]; rfl
                  subst hr20
                  refine lv_if_eq (tgt := 75) hx hb dX2_numberInTens_67 (by decide) (fun _ => ?_) (fun c22 => absurd (by decide) c22)
                  refine lv_iconst (v := (-1)) hx hb dX2_numberInTens_75 (by decide) ?_
                  exact reI hx hb hr hlocks dX2_numberInTens_76 (by first | (rw [← hv]; simp only [pTenL, c4, c6, c13, b21, decide_true, decide_false, Bool.not_true, Bool.not_false, Bool.and_true, Bool.true_and, Bool.and_false, Bool.false_and, Bool.or_true, Bool.true_or, Bool.or_false, Bool.false_or, Bool.and_self, Bool.or_self, if_true, if_false, ite_true, ite_false, Bool.false_eq_true, reduceIte, not_true_eq_false, not_false_eq_true, and_true, true_and, and_false, false_and, or_true, true_or, or_false, false_or, and_self, or_self, eq_self, decide_eq_true_eq, Bool.true_eq_false, reduceCtorEq, ne_eq]; done) | (rw [← hv]; simp [pTenL, c4, c6, c13, b21, Int32.not_lt.mp c2, Int32.not_lt.mpr c3, Int32.not_le.mp c4, Int32.not_le.mp c6]; done) | (rw [← hv]; simp only [pTenL, c4, c6, eq_true c13, b21, decide_true, decide_false, Bool.not_true, Bool.not_false, Bool.and_true, Bool.true_and, Bool.and_false, Bool.false_and, Bool.or_true, Bool.true_or, Bool.or_false, Bool.false_or, Bool.and_self, Bool.or_self, if_true, if_false, ite_true, ite_false, Bool.false_eq_true, reduceIte, not_true_eq_false, not_false_eq_true, and_true, true_and, and_false, false_and, or_true, true_or, or_false, false_or, and_self, or_self, eq_self, decide_eq_true_eq, Bool.true_eq_false, reduceCtorEq, ne_eq]; done) | (rw [← hv]; simp [pTenL, c4, c6, eq_true c13, b21, Int32.not_lt.mp c2, Int32.not_lt.mpr c3, Int32.not_le.mp c4, Int32.not_le.mp c6]; done))
                · replace hr20 : r20 = 1 := by rw [hr20, b21]; rfl
                  subst hr20
                  refine lv_if_eq (tgt := 75) hx hb dX2_numberInTens_67 (by decide) (fun c23 => absurd c23 (by decide)) (fun _ => ?_)
                  refine lv_iload hx hb dX2_numberInTens_70 (lv_at hl 0 rfl) ?_
                  refine lv_if_eq (tgt := 77) hx hb dX2_numberInTens_72 (by decide) (fun c24 => absurd c24 (by decide)) (fun _ => ?_)
                  refine lv_iconst (v := (-1)) hx hb dX2_numberInTens_75 (by decide) ?_
                  exact reI hx hb hr hlocks dX2_numberInTens_76 (by first | (rw [← hv]; simp only [pTenL, c4, c6, c13, b21, decide_true, decide_false, Bool.not_true, Bool.not_false, Bool.and_true, Bool.true_and, Bool.and_false, Bool.false_and, Bool.or_true, Bool.true_or, Bool.or_false, Bool.false_or, Bool.and_self, Bool.or_self, if_true, if_false, ite_true, ite_false, Bool.false_eq_true, reduceIte, not_true_eq_false, not_false_eq_true, and_true, true_and, and_false, false_and, or_true, true_or, or_false, false_or, and_self, or_self, eq_self, decide_eq_true_eq, Bool.true_eq_false, reduceCtorEq, ne_eq]; done) | (rw [← hv]; simp [pTenL, c4, c6, c13, b21, Int32.not_lt.mp c2, Int32.not_lt.mpr c3, Int32.not_le.mp c4, Int32.not_le.mp c6]; done) | (rw [← hv]; simp only [pTenL, c4, c6, eq_true c13, b21, decide_true, decide_false, Bool.not_true, Bool.not_false, Bool.and_true, Bool.true_and, Bool.and_false, Bool.false_and, Bool.or_true, Bool.true_or, Bool.or_false, Bool.false_or, Bool.and_self, Bool.or_self, if_true, if_false, ite_true, ite_false, Bool.false_eq_true, reduceIte, not_true_eq_false, not_false_eq_true, and_true, true_and, and_false, false_and, or_true, true_or, or_false, false_or, and_self, or_self, eq_self, decide_eq_true_eq, Bool.true_eq_false, reduceCtorEq, ne_eq]; done) | (rw [← hv]; simp [pTenL, c4, c6, eq_true c13, b21, Int32.not_lt.mp c2, Int32.not_lt.mpr c3, Int32.not_le.mp c4, Int32.not_le.mp c6]; done))
      exact LP ((len t x).toInt.toNat + 1) 0 0 (by rw [show ((0 : Int32)).toInt = 0 from rfl]; omega) (by first | (simp only [pTens, c2, c3, decide_true, decide_false, Bool.not_true, Bool.not_false, Bool.and_true, Bool.true_and, Bool.and_false, Bool.false_and, Bool.or_true, Bool.true_or, Bool.or_false, Bool.false_or, Bool.and_self, Bool.or_self, if_true, if_false, ite_true, ite_false, Bool.false_eq_true, reduceIte, not_true_eq_false, not_false_eq_true, and_true, true_and, and_false, false_and, or_true, true_or, or_false, false_or, and_self, or_self, eq_self, decide_eq_true_eq, Bool.true_eq_false, reduceCtorEq, ne_eq]; done) | (simp [pTens, c2, c3, Int32.not_lt.mp c2, Int32.not_lt.mpr c3]; done)) ls (lv_sub hl [0, 1, 2, 3, 4] rfl)
    · skip
      refine lv_iconst (v := (-1)) hx hb dX2_numberInTens_19 (by decide) ?_
      exact reI hx hb hr hlocks dX2_numberInTens_20 (by first | (simp only [pTens, c2, c3, decide_true, decide_false, Bool.not_true, Bool.not_false, Bool.and_true, Bool.true_and, Bool.and_false, Bool.false_and, Bool.or_true, Bool.true_or, Bool.or_false, Bool.false_or, Bool.and_self, Bool.or_self, if_true, if_false, ite_true, ite_false, Bool.false_eq_true, reduceIte, not_true_eq_false, not_false_eq_true, and_true, true_and, and_false, false_and, or_true, true_or, or_false, false_or, and_self, or_self, eq_self, decide_eq_true_eq, Bool.true_eq_false, reduceCtorEq, ne_eq]; done) | (simp [pTens, c2, c3, Int32.not_lt.mp c2, Int32.not_le.mp c3]; done))
theorem hdX2_numberInTens : yX2_numberInTens.cls = RX2 ∧ yX2_numberInTens.cls ≠ "java/lang/invoke/MethodHandle" ∧ yX2_numberInTens.cls ≠ "java/lang/invoke/VarHandle" ∧ (parseMethodDescriptor yX2_numberInTens.desc).map (fun d => d.parameters.length) = some 1 := by decide +kernel
set_option maxHeartbeats 4000000 in
set_option maxRecDepth 100000 in
theorem c_X2_nameOf (l : Launch) (D : va_G) (Y : Nat → ClassId) (ad : OA) (t : OS) (x : Int32) (hok : oOK t) : Met l yX2_nameOf wsX2_nameOf ({ frames := 4, cells := 0, slots := 0, locals := 84 }) (rdPc D Y [.ref (oO ad), .int x] (oW Y ad t)) (vp_Si (fun ans => ans = pName t x)) 0 0 (fun _ => False) := by
  refine rdOf (cc := cX2_nameOf) (maxL := 2) (ret := (some .int)) (own := RX2) (by decide) rfl rfl (Nat.le_of_ble_eq_true rfl) ?_
  intro p e s m below meth c ls hx hb hr hts hown hml hlocks hP hK hl
  have iwX2 : ∀ w ∈ u_ws RX2 TX2 10, w ∈ wsX2_nameOf := fun _ h => List.mem_cons_of_mem _ (List.mem_append_left _ (List.mem_append_left _ (List.mem_append_right _ h)))
  have hl : lv_has ls 2 [(0, .ref (oO ad)), (1, .int x)] := hl
  refine lv_aload_n hx hb dX2_nameOf_0 rfl (lv_at hl 0 rfl) ?_
  refine va_get (D := D) (ci := 3) (v := .ref (oH ad 0)) (C := RX2) (T := TX2) (N := 10) hx hb hts iwX2 hown hK hP 0 rfl rfl 0 (by decide) (hts (.fieldLink RX2 12 "ObjectRows" "kinds" "LObjectRows$Row;") (by decide +kernel)) (fun _ h9 => h9) rfl dX2_nameOf_1 ?_
  refine lv_iload_n hx hb dX2_nameOf_4 rfl (lv_at hl 1 rfl) ?_
  refine rcI (As := [.int x]) (rest := []) ⟨hx, hb, hml, hown, hts⟩ (c_X1_at l D Y (oH ad 0) (oR t 0) x (hok 0 (by decide))) (cwV 1 hts gX2_nameOf_X1_at rfl rfl rfl hdX1_at ⟨Nat.le_of_ble_eq_true rfl, Nat.le_of_ble_eq_true rfl⟩) (oWr0 hP) hK 0 2 rfl rfl rfl hl.1 rfl (Nat.le_of_ble_eq_true rfl) dX2_nameOf_5 ⟨(Nat.zero_le _), (Nat.zero_le _)⟩ (fun r1 hr1 => ?_)
  obtain rfl : r1 = kd t x := hr1
  refine lv_iconst (v := 3) hx hb dX2_nameOf_8 (by decide) ?_
  refine lv_icmp_ne (tgt := 21) hx hb dX2_nameOf_9 (by decide) (fun c2 => ?_) (fun c2 => ?_)
  · skip
    refine lv_aload_n hx hb dX2_nameOf_21 rfl (lv_at hl 0 rfl) ?_
    refine lv_iload_n hx hb dX2_nameOf_22 rfl (lv_at hl 1 rfl) ?_
    refine rcI (As := [.int x]) (rest := []) ⟨hx, hb, hml, hown, hts⟩ (c_X2_readableString l D Y ad t x hok) (cwV 1 hts gX2_nameOf_X2_readableString rfl rfl rfl hdX2_readableString ⟨Nat.le_of_ble_eq_true rfl, Nat.le_of_ble_eq_true rfl⟩) hP hK 0 3 rfl rfl rfl hl.1 rfl (Nat.le_of_ble_eq_true rfl) dX2_nameOf_23 ⟨(Nat.zero_le _), (Nat.zero_le _)⟩ (fun r3 hr3 => ?_)
    replace hr3 : r3 = bI (pRStr t x) := hr3
    cases b4 : pRStr t x
    · replace hr3 : r3 = 0 := by rw [hr3, b4]; rfl
      subst hr3
      refine lv_if_eq (tgt := 37) hx hb dX2_nameOf_26 (by decide) (fun _ => ?_) (fun c5 => absurd (by decide) c5)
      refine lv_iconst (v := (-1)) hx hb dX2_nameOf_37 (by decide) ?_
      exact reI hx hb hr hlocks dX2_nameOf_38 (by first | (simp only [pName, c2, b4, decide_true, decide_false, Bool.not_true, Bool.not_false, Bool.and_true, Bool.true_and, Bool.and_false, Bool.false_and, Bool.or_true, Bool.true_or, Bool.or_false, Bool.false_or, Bool.and_self, Bool.or_self, if_true, if_false, ite_true, ite_false, Bool.false_eq_true, reduceIte, not_true_eq_false, not_false_eq_true, and_true, true_and, and_false, false_and, or_true, true_or, or_false, false_or, and_self, or_self, eq_self, decide_eq_true_eq, Bool.true_eq_false, reduceCtorEq, ne_eq]; done) | (simp [pName, c2, b4]; done))
    · replace hr3 : r3 = 1 := by rw [hr3, b4]; rfl
      subst hr3
      refine lv_if_eq (tgt := 37) hx hb dX2_nameOf_26 (by decide) (fun c6 => absurd c6 (by decide)) (fun _ => ?_)
      refine lv_aload_n hx hb dX2_nameOf_29 rfl (lv_at hl 0 rfl) ?_
      refine lv_iload_n hx hb dX2_nameOf_30 rfl (lv_at hl 1 rfl) ?_
      refine rcI (As := [.int x]) (rest := []) ⟨hx, hb, hml, hown, hts⟩ (c_X2_numberInTens l D Y ad t x hok) (cwV 1 hts gX2_nameOf_X2_numberInTens rfl rfl rfl hdX2_numberInTens ⟨Nat.le_of_ble_eq_true rfl, Nat.le_of_ble_eq_true rfl⟩) hP hK 0 3 rfl rfl rfl hl.1 rfl (Nat.le_of_ble_eq_true rfl) dX2_nameOf_31 ⟨(Nat.zero_le _), (Nat.zero_le _)⟩ (fun r7 hr7 => ?_)
      obtain rfl : r7 = pTens t x := hr7
      refine lv_goto (tgt := 38) hx hb dX2_nameOf_34 (by decide) ?_
      exact reI hx hb hr hlocks dX2_nameOf_38 (by first | (simp only [pName, c2, b4, decide_true, decide_false, Bool.not_true, Bool.not_false, Bool.and_true, Bool.true_and, Bool.and_false, Bool.false_and, Bool.or_true, Bool.true_or, Bool.or_false, Bool.false_or, Bool.and_self, Bool.or_self, if_true, if_false, ite_true, ite_false, Bool.false_eq_true, reduceIte, not_true_eq_false, not_false_eq_true, and_true, true_and, and_false, false_and, or_true, true_or, or_false, false_or, and_self, or_self, eq_self, decide_eq_true_eq, Bool.true_eq_false, reduceCtorEq, ne_eq]; done) | (simp [pName, c2, b4]; done))
  · skip
    refine lv_aload_n hx hb dX2_nameOf_12 rfl (lv_at hl 0 rfl) ?_
    refine va_get (D := D) (ci := 3) (v := .ref (oH ad 1)) (C := RX2) (T := TX2) (N := 10) hx hb hts iwX2 hown hK hP 0 rfl rfl 1 (by decide) (hts (.fieldLink RX2 16 "ObjectRows" "numbers" "LObjectRows$Row;") (by decide +kernel)) (fun _ h9 => h9) rfl dX2_nameOf_13 ?_
    refine lv_iload_n hx hb dX2_nameOf_16 rfl (lv_at hl 1 rfl) ?_
    refine rcI (As := [.int x]) (rest := []) ⟨hx, hb, hml, hown, hts⟩ (c_X1_at l D Y (oH ad 1) (oR t 1) x (hok 1 (by decide))) (cwV 1 hts gX2_nameOf_X1_at rfl rfl rfl hdX1_at ⟨Nat.le_of_ble_eq_true rfl, Nat.le_of_ble_eq_true rfl⟩) (oWr1 hP) hK 0 2 rfl rfl rfl hl.1 rfl (Nat.le_of_ble_eq_true rfl) dX2_nameOf_17 ⟨(Nat.zero_le _), (Nat.zero_le _)⟩ (fun r8 hr8 => ?_)
    obtain rfl : r8 = nu t x := hr8
    exact reI hx hb hr hlocks dX2_nameOf_20 (by first | (simp only [pName, c2, decide_true, decide_false, Bool.not_true, Bool.not_false, Bool.and_true, Bool.true_and, Bool.and_false, Bool.false_and, Bool.or_true, Bool.true_or, Bool.or_false, Bool.false_or, Bool.and_self, Bool.or_self, if_true, if_false, ite_true, ite_false, Bool.false_eq_true, reduceIte, not_true_eq_false, not_false_eq_true, and_true, true_and, and_false, false_and, or_true, true_or, or_false, false_or, and_self, or_self, eq_self, decide_eq_true_eq, Bool.true_eq_false, reduceCtorEq, ne_eq]; done) | (simp [pName, c2]; done) | (simp only [pName, eq_true c2, decide_true, decide_false, Bool.not_true, Bool.not_false, Bool.and_true, Bool.true_and, Bool.and_false, Bool.false_and, Bool.or_true, Bool.true_or, Bool.or_false, Bool.false_or, Bool.and_self, Bool.or_self, if_true, if_false, ite_true, ite_false, Bool.false_eq_true, reduceIte, not_true_eq_false, not_false_eq_true, and_true, true_and, and_false, false_and, or_true, true_or, or_false, false_or, and_self, or_self, eq_self, decide_eq_true_eq, Bool.true_eq_false, reduceCtorEq, ne_eq]; done) | (simp [pName, eq_true c2]; done))
theorem hdX2_nameOf : yX2_nameOf.cls = RX2 ∧ yX2_nameOf.cls ≠ "java/lang/invoke/MethodHandle" ∧ yX2_nameOf.cls ≠ "java/lang/invoke/VarHandle" ∧ (parseMethodDescriptor yX2_nameOf.desc).map (fun d => d.parameters.length) = some 1 := by decide +kernel
set_option maxHeartbeats 4000000 in
set_option maxRecDepth 100000 in
theorem c_X2_keyFor (l : Launch) (D : va_G) (Y : Nat → ClassId) (ad : OA) (t : OS) (x : Int32) (hok : oOK t) : Met l yX2_keyFor wsX2_keyFor ({ frames := 5, cells := 0, slots := 0, locals := 105 }) (rdPc D Y [.ref (oO ad), .int x] (oW Y ad t)) (vp_Si (fun ans => ans = pKeyFor t x)) 0 0 (fun _ => False) := by
  refine rdOf (cc := cX2_keyFor) (maxL := 4) (ret := (some .int)) (own := RX2) (by decide) rfl rfl (Nat.le_of_ble_eq_true rfl) ?_
  intro p e s m below meth c ls hx hb hr hts hown hml hlocks hP hK hl
  have iwX2 : ∀ w ∈ u_ws RX2 TX2 10, w ∈ wsX2_keyFor := fun _ h => List.mem_cons_of_mem _ (List.mem_append_left _ (List.mem_append_left _ (List.mem_append_right _ h)))
  have hl : lv_has ls 4 [(0, .ref (oO ad)), (1, .int x)] := hl
  refine lv_aload_n hx hb dX2_keyFor_0 rfl (lv_at hl 0 rfl) ?_
  refine va_get (D := D) (ci := 3) (v := .ref (oH ad 0)) (C := RX2) (T := TX2) (N := 10) hx hb hts iwX2 hown hK hP 0 rfl rfl 0 (by decide) (hts (.fieldLink RX2 12 "ObjectRows" "kinds" "LObjectRows$Row;") (by decide +kernel)) (fun _ h9 => h9) rfl dX2_keyFor_1 ?_
  refine lv_iload_n hx hb dX2_keyFor_4 rfl (lv_at hl 1 rfl) ?_
  refine rcI (As := [.int x]) (rest := []) ⟨hx, hb, hml, hown, hts⟩ (c_X1_at l D Y (oH ad 0) (oR t 0) x (hok 0 (by decide))) (cwV 1 hts gX2_keyFor_X1_at rfl rfl rfl hdX1_at ⟨Nat.le_of_ble_eq_true rfl, Nat.le_of_ble_eq_true rfl⟩) (oWr0 hP) hK 0 2 rfl rfl rfl hl.1 rfl (Nat.le_of_ble_eq_true rfl) dX2_keyFor_5 ⟨(Nat.zero_le _), (Nat.zero_le _)⟩ (fun r1 hr1 => ?_)
  obtain rfl : r1 = kd t x := hr1
  refine lv_istore_n (lv' := [(2, .int (kd t x)), (0, .ref (oO ad)), (1, .int x)]) hx hb dX2_keyFor_8 rfl hl (by decide) rfl (fun ls hl => ?_)
  refine lv_iload_n hx hb dX2_keyFor_9 rfl (lv_at hl 0 rfl) ?_
  refine lv_if_ne (tgt := 15) hx hb dX2_keyFor_10 (by decide) (fun c2 => ?_) (fun c2 => ?_)
  · skip
    refine lv_iload_n hx hb dX2_keyFor_15 rfl (lv_at hl 0 rfl) ?_
    refine lv_iconst (v := 4) hx hb dX2_keyFor_16 (by decide) ?_
    refine lv_icmp_eq (tgt := 27) hx hb dX2_keyFor_17 (by decide) (fun c3 => ?_) (fun c3 => ?_)
    · skip
      refine lv_aload_n hx hb dX2_keyFor_27 rfl (lv_at hl 1 rfl) ?_
      refine lv_iload_n hx hb dX2_keyFor_28 rfl (lv_at hl 2 rfl) ?_
      refine rcI (As := [.int x]) (rest := []) ⟨hx, hb, hml, hown, hts⟩ (c_X2_nameOf l D Y ad t x hok) (cwV 1 hts gX2_keyFor_X2_nameOf rfl rfl rfl hdX2_nameOf ⟨Nat.le_of_ble_eq_true rfl, Nat.le_of_ble_eq_true rfl⟩) hP hK 0 3 rfl rfl rfl hl.1 rfl (Nat.le_of_ble_eq_true rfl) dX2_keyFor_29 ⟨(Nat.zero_le _), (Nat.zero_le _)⟩ (fun r4 hr4 => ?_)
      obtain rfl : r4 = pName t x := hr4
      refine lv_istore_n (lv' := [(3, .int (pName t x)), (2, .int (kd t x)), (0, .ref (oO ad)), (1, .int x)]) hx hb dX2_keyFor_32 rfl hl (by decide) rfl (fun ls hl => ?_)
      refine lv_iload_n hx hb dX2_keyFor_33 rfl (lv_at hl 0 rfl) ?_
      refine lv_iconst (v := (-1)) hx hb dX2_keyFor_34 (by decide) ?_
      refine lv_icmp_ne (tgt := 42) hx hb dX2_keyFor_35 (by decide) (fun c5 => ?_) (fun c5 => ?_)
      · skip
        refine lv_bipush (v := 100) hx hb dX2_keyFor_42 (by decide) ?_
        refine lv_iload_n hx hb dX2_keyFor_44 rfl (lv_at hl 0 rfl) ?_
        refine lv_iadd hx hb dX2_keyFor_45 ?_
        exact reI hx hb hr hlocks dX2_keyFor_46 (by first | (simp only [pKeyFor, c2, c3, c5, decide_true, decide_false, Bool.not_true, Bool.not_false, Bool.and_true, Bool.true_and, Bool.and_false, Bool.false_and, Bool.or_true, Bool.true_or, Bool.or_false, Bool.false_or, Bool.and_self, Bool.or_self, if_true, if_false, ite_true, ite_false, Bool.false_eq_true, reduceIte, not_true_eq_false, not_false_eq_true, and_true, true_and, and_false, false_and, or_true, true_or, or_false, false_or, and_self, or_self, eq_self, decide_eq_true_eq, Bool.true_eq_false, reduceCtorEq, ne_eq]; done) | (simp [pKeyFor, c2, c3, c5]; done) | (simp only [pKeyFor, c2, eq_true c3, c5, decide_true, decide_false, Bool.not_true, Bool.not_false, Bool.and_true, Bool.true_and, Bool.and_false, Bool.false_and, Bool.or_true, Bool.true_or, Bool.or_false, Bool.false_or, Bool.and_self, Bool.or_self, if_true, if_false, ite_true, ite_false, Bool.false_eq_true, reduceIte, not_true_eq_false, not_false_eq_true, and_true, true_and, and_false, false_and, or_true, true_or, or_false, false_or, and_self, or_self, eq_self, decide_eq_true_eq, Bool.true_eq_false, reduceCtorEq, ne_eq]; done) | (simp [pKeyFor, c2, eq_true c3, c5]; done))
      · skip
        refine lv_iconst (v := (-1)) hx hb dX2_keyFor_38 (by decide) ?_
        refine lv_goto (tgt := 46) hx hb dX2_keyFor_39 (by decide) ?_
        exact reI hx hb hr hlocks dX2_keyFor_46 (by first | (simp only [pKeyFor, c2, c3, c5, decide_true, decide_false, Bool.not_true, Bool.not_false, Bool.and_true, Bool.true_and, Bool.and_false, Bool.false_and, Bool.or_true, Bool.true_or, Bool.or_false, Bool.false_or, Bool.and_self, Bool.or_self, if_true, if_false, ite_true, ite_false, Bool.false_eq_true, reduceIte, not_true_eq_false, not_false_eq_true, and_true, true_and, and_false, false_and, or_true, true_or, or_false, false_or, and_self, or_self, eq_self, decide_eq_true_eq, Bool.true_eq_false, reduceCtorEq, ne_eq]; done) | (simp [pKeyFor, c2, c3, c5]; done) | (simp only [pKeyFor, c2, eq_true c3, eq_true c5, decide_true, decide_false, Bool.not_true, Bool.not_false, Bool.and_true, Bool.true_and, Bool.and_false, Bool.false_and, Bool.or_true, Bool.true_or, Bool.or_false, Bool.false_or, Bool.and_self, Bool.or_self, if_true, if_false, ite_true, ite_false, Bool.false_eq_true, reduceIte, not_true_eq_false, not_false_eq_true, and_true, true_and, and_false, false_and, or_true, true_or, or_false, false_or, and_self, or_self, eq_self, decide_eq_true_eq, Bool.true_eq_false, reduceCtorEq, ne_eq]; done) | (simp [pKeyFor, c2, eq_true c3, eq_true c5]; done))
    · skip
      refine lv_iload_n hx hb dX2_keyFor_20 rfl (lv_at hl 0 rfl) ?_
      refine lv_iconst (v := 3) hx hb dX2_keyFor_21 (by decide) ?_
      refine lv_icmp_eq (tgt := 27) hx hb dX2_keyFor_22 (by decide) (fun c6 => ?_) (fun c6 => ?_)
      · skip
        refine lv_aload_n hx hb dX2_keyFor_27 rfl (lv_at hl 1 rfl) ?_
        refine lv_iload_n hx hb dX2_keyFor_28 rfl (lv_at hl 2 rfl) ?_
        refine rcI (As := [.int x]) (rest := []) ⟨hx, hb, hml, hown, hts⟩ (c_X2_nameOf l D Y ad t x hok) (cwV 1 hts gX2_keyFor_X2_nameOf rfl rfl rfl hdX2_nameOf ⟨Nat.le_of_ble_eq_true rfl, Nat.le_of_ble_eq_true rfl⟩) hP hK 0 3 rfl rfl rfl hl.1 rfl (Nat.le_of_ble_eq_true rfl) dX2_keyFor_29 ⟨(Nat.zero_le _), (Nat.zero_le _)⟩ (fun r7 hr7 => ?_)
        obtain rfl : r7 = pName t x := hr7
        refine lv_istore_n (lv' := [(3, .int (pName t x)), (2, .int (kd t x)), (0, .ref (oO ad)), (1, .int x)]) hx hb dX2_keyFor_32 rfl hl (by decide) rfl (fun ls hl => ?_)
        refine lv_iload_n hx hb dX2_keyFor_33 rfl (lv_at hl 0 rfl) ?_
        refine lv_iconst (v := (-1)) hx hb dX2_keyFor_34 (by decide) ?_
        refine lv_icmp_ne (tgt := 42) hx hb dX2_keyFor_35 (by decide) (fun c8 => ?_) (fun c8 => ?_)
        · skip
          refine lv_bipush (v := 100) hx hb dX2_keyFor_42 (by decide) ?_
          refine lv_iload_n hx hb dX2_keyFor_44 rfl (lv_at hl 0 rfl) ?_
          refine lv_iadd hx hb dX2_keyFor_45 ?_
          exact reI hx hb hr hlocks dX2_keyFor_46 (by first | (simp only [pKeyFor, c2, c3, c6, c8, decide_true, decide_false, Bool.not_true, Bool.not_false, Bool.and_true, Bool.true_and, Bool.and_false, Bool.false_and, Bool.or_true, Bool.true_or, Bool.or_false, Bool.false_or, Bool.and_self, Bool.or_self, if_true, if_false, ite_true, ite_false, Bool.false_eq_true, reduceIte, not_true_eq_false, not_false_eq_true, and_true, true_and, and_false, false_and, or_true, true_or, or_false, false_or, and_self, or_self, eq_self, decide_eq_true_eq, Bool.true_eq_false, reduceCtorEq, ne_eq]; done) | (simp [pKeyFor, c2, c3, c6, c8]; done) | (simp only [pKeyFor, c2, c3, eq_true c6, c8, decide_true, decide_false, Bool.not_true, Bool.not_false, Bool.and_true, Bool.true_and, Bool.and_false, Bool.false_and, Bool.or_true, Bool.true_or, Bool.or_false, Bool.false_or, Bool.and_self, Bool.or_self, if_true, if_false, ite_true, ite_false, Bool.false_eq_true, reduceIte, not_true_eq_false, not_false_eq_true, and_true, true_and, and_false, false_and, or_true, true_or, or_false, false_or, and_self, or_self, eq_self, decide_eq_true_eq, Bool.true_eq_false, reduceCtorEq, ne_eq]; done) | (simp [pKeyFor, c2, c3, eq_true c6, c8]; done))
        · skip
          refine lv_iconst (v := (-1)) hx hb dX2_keyFor_38 (by decide) ?_
          refine lv_goto (tgt := 46) hx hb dX2_keyFor_39 (by decide) ?_
          exact reI hx hb hr hlocks dX2_keyFor_46 (by first | (simp only [pKeyFor, c2, c3, c6, c8, decide_true, decide_false, Bool.not_true, Bool.not_false, Bool.and_true, Bool.true_and, Bool.and_false, Bool.false_and, Bool.or_true, Bool.true_or, Bool.or_false, Bool.false_or, Bool.and_self, Bool.or_self, if_true, if_false, ite_true, ite_false, Bool.false_eq_true, reduceIte, not_true_eq_false, not_false_eq_true, and_true, true_and, and_false, false_and, or_true, true_or, or_false, false_or, and_self, or_self, eq_self, decide_eq_true_eq, Bool.true_eq_false, reduceCtorEq, ne_eq]; done) | (simp [pKeyFor, c2, c3, c6, c8]; done) | (simp only [pKeyFor, c2, c3, eq_true c6, eq_true c8, decide_true, decide_false, Bool.not_true, Bool.not_false, Bool.and_true, Bool.true_and, Bool.and_false, Bool.false_and, Bool.or_true, Bool.true_or, Bool.or_false, Bool.false_or, Bool.and_self, Bool.or_self, if_true, if_false, ite_true, ite_false, Bool.false_eq_true, reduceIte, not_true_eq_false, not_false_eq_true, and_true, true_and, and_false, false_and, or_true, true_or, or_false, false_or, and_self, or_self, eq_self, decide_eq_true_eq, Bool.true_eq_false, reduceCtorEq, ne_eq]; done) | (simp [pKeyFor, c2, c3, eq_true c6, eq_true c8]; done))
      · skip
        refine lv_iload_n hx hb dX2_keyFor_25 rfl (lv_at hl 2 rfl) ?_
        exact reI hx hb hr hlocks dX2_keyFor_26 (by first | (simp only [pKeyFor, c2, c3, c6, decide_true, decide_false, Bool.not_true, Bool.not_false, Bool.and_true, Bool.true_and, Bool.and_false, Bool.false_and, Bool.or_true, Bool.true_or, Bool.or_false, Bool.false_or, Bool.and_self, Bool.or_self, if_true, if_false, ite_true, ite_false, Bool.false_eq_true, reduceIte, not_true_eq_false, not_false_eq_true, and_true, true_and, and_false, false_and, or_true, true_or, or_false, false_or, and_self, or_self, eq_self, decide_eq_true_eq, Bool.true_eq_false, reduceCtorEq, ne_eq]; done) | (simp [pKeyFor, c2, c3, c6]; done))
  · skip
    refine lv_iconst (v := (-1)) hx hb dX2_keyFor_13 (by decide) ?_
    exact reI hx hb hr hlocks dX2_keyFor_14 (by first | (simp only [pKeyFor, c2, decide_true, decide_false, Bool.not_true, Bool.not_false, Bool.and_true, Bool.true_and, Bool.and_false, Bool.false_and, Bool.or_true, Bool.true_or, Bool.or_false, Bool.false_or, Bool.and_self, Bool.or_self, if_true, if_false, ite_true, ite_false, Bool.false_eq_true, reduceIte, not_true_eq_false, not_false_eq_true, and_true, true_and, and_false, false_and, or_true, true_or, or_false, false_or, and_self, or_self, eq_self, decide_eq_true_eq, Bool.true_eq_false, reduceCtorEq, ne_eq]; done) | (simp [pKeyFor, c2]; done) | (simp only [pKeyFor, eq_true c2, decide_true, decide_false, Bool.not_true, Bool.not_false, Bool.and_true, Bool.true_and, Bool.and_false, Bool.false_and, Bool.or_true, Bool.true_or, Bool.or_false, Bool.false_or, Bool.and_self, Bool.or_self, if_true, if_false, ite_true, ite_false, Bool.false_eq_true, reduceIte, not_true_eq_false, not_false_eq_true, and_true, true_and, and_false, false_and, or_true, true_or, or_false, false_or, and_self, or_self, eq_self, decide_eq_true_eq, Bool.true_eq_false, reduceCtorEq, ne_eq]; done) | (simp [pKeyFor, eq_true c2]; done))
theorem hdX2_keyFor : yX2_keyFor.cls = RX2 ∧ yX2_keyFor.cls ≠ "java/lang/invoke/MethodHandle" ∧ yX2_keyFor.cls ≠ "java/lang/invoke/VarHandle" ∧ (parseMethodDescriptor yX2_keyFor.desc).map (fun d => d.parameters.length) = some 1 := by decide +kernel
set_option maxHeartbeats 4000000 in
set_option maxRecDepth 100000 in
theorem c_X2_alike (l : Launch) (D : va_G) (Y : Nat → ClassId) (ad : OA) (t : OS) (a : Int32) (b : Int32) (hok : oOK t) : Met l yX2_alike wsX2_alike ({ frames := 5, cells := 0, slots := 0, locals := 105 }) (rdPc D Y [.ref (oO ad), .int a, .int b] (oW Y ad t)) (vp_Si (fun ans => ans = bI (pAlike t a b))) 0 0 (fun _ => False) := by
  refine rdOf (cc := cX2_alike) (maxL := 5) (ret := (some .boolean)) (own := RX2) (by decide) rfl rfl (Nat.le_of_ble_eq_true rfl) ?_
  intro p e s m below meth c ls hx hb hr hts hown hml hlocks hP hK hl
  have iwX2 : ∀ w ∈ u_ws RX2 TX2 10, w ∈ wsX2_alike := fun _ h => List.mem_cons_of_mem _ (List.mem_append_left _ (List.mem_append_left _ (List.mem_append_right _ h)))
  have hl : lv_has ls 5 [(0, .ref (oO ad)), (1, .int a), (2, .int b)] := hl
  refine lv_aload_n hx hb dX2_alike_0 rfl (lv_at hl 0 rfl) ?_
  refine va_get (D := D) (ci := 3) (v := .ref (oH ad 0)) (C := RX2) (T := TX2) (N := 10) hx hb hts iwX2 hown hK hP 0 rfl rfl 0 (by decide) (hts (.fieldLink RX2 12 "ObjectRows" "kinds" "LObjectRows$Row;") (by decide +kernel)) (fun _ h9 => h9) rfl dX2_alike_1 ?_
  refine lv_iload_n hx hb dX2_alike_4 rfl (lv_at hl 1 rfl) ?_
  refine rcI (As := [.int a]) (rest := []) ⟨hx, hb, hml, hown, hts⟩ (c_X1_at l D Y (oH ad 0) (oR t 0) a (hok 0 (by decide))) (cwV 1 hts gX2_alike_X1_at rfl rfl rfl hdX1_at ⟨Nat.le_of_ble_eq_true rfl, Nat.le_of_ble_eq_true rfl⟩) (oWr0 hP) hK 0 2 rfl rfl rfl hl.1 rfl (Nat.le_of_ble_eq_true rfl) dX2_alike_5 ⟨(Nat.zero_le _), (Nat.zero_le _)⟩ (fun r1 hr1 => ?_)
  obtain rfl : r1 = kd t a := hr1
  refine lv_istore_n (lv' := [(3, .int (kd t a)), (0, .ref (oO ad)), (1, .int a), (2, .int b)]) hx hb dX2_alike_8 rfl hl (by decide) rfl (fun ls hl => ?_)
  refine lv_aload_n hx hb dX2_alike_9 rfl (lv_at hl 1 rfl) ?_
  refine va_get (D := D) (ci := 3) (v := .ref (oH ad 0)) (C := RX2) (T := TX2) (N := 10) hx hb hts iwX2 hown hK hP 0 rfl rfl 0 (by decide) (hts (.fieldLink RX2 12 "ObjectRows" "kinds" "LObjectRows$Row;") (by decide +kernel)) (fun _ h9 => h9) rfl dX2_alike_10 ?_
  refine lv_iload_n hx hb dX2_alike_13 rfl (lv_at hl 3 rfl) ?_
  refine rcI (As := [.int b]) (rest := []) ⟨hx, hb, hml, hown, hts⟩ (c_X1_at l D Y (oH ad 0) (oR t 0) b (hok 0 (by decide))) (cwV 1 hts gX2_alike_X1_at rfl rfl rfl hdX1_at ⟨Nat.le_of_ble_eq_true rfl, Nat.le_of_ble_eq_true rfl⟩) (oWr0 hP) hK 0 2 rfl rfl rfl hl.1 rfl (Nat.le_of_ble_eq_true rfl) dX2_alike_14 ⟨(Nat.zero_le _), (Nat.zero_le _)⟩ (fun r2 hr2 => ?_)
  obtain rfl : r2 = kd t b := hr2
  refine lv_istore (lv' := [(4, .int (kd t b)), (3, .int (kd t a)), (0, .ref (oO ad)), (1, .int a), (2, .int b)]) hx hb dX2_alike_17 hl (by decide) rfl (fun ls hl => ?_)
  refine lv_iload_n hx hb dX2_alike_19 rfl (lv_at hl 1 rfl) ?_
  refine lv_iconst (v := 4) hx hb dX2_alike_20 (by decide) ?_
  refine lv_icmp_ne (tgt := 62) hx hb dX2_alike_21 (by decide) (fun c3 => ?_) (fun c3 => ?_)
  · skip
    refine lv_iload_n hx hb dX2_alike_62 rfl (lv_at hl 1 rfl) ?_
    refine lv_iconst (v := 4) hx hb dX2_alike_63 (by decide) ?_
    refine lv_icmp_eq (tgt := 73) hx hb dX2_alike_64 (by decide) (fun c4 => absurd c4 c3) (fun _ => ?_)
    refine lv_iload hx hb dX2_alike_67 (lv_at hl 0 rfl) ?_
    refine lv_iconst (v := 4) hx hb dX2_alike_69 (by decide) ?_
    refine lv_icmp_ne (tgt := 101) hx hb dX2_alike_70 (by decide) (fun c5 => ?_) (fun c5 => ?_)
    · skip
      refine lv_aload_n hx hb dX2_alike_101 rfl (lv_at hl 2 rfl) ?_
      refine lv_iload_n hx hb dX2_alike_102 rfl (lv_at hl 3 rfl) ?_
      refine lv_iload_n hx hb dX2_alike_103 rfl (lv_at hl 4 rfl) ?_
      refine rcI (As := [.int a, .int b]) (rest := []) ⟨hx, hb, hml, hown, hts⟩ (c_X2_alikeButStrings l D Y ad t a b hok) (cwV 2 hts gX2_alike_X2_alikeButStrings rfl rfl rfl hdX2_alikeButStrings ⟨Nat.le_of_ble_eq_true rfl, Nat.le_of_ble_eq_true rfl⟩) hP hK 0 3 rfl rfl rfl hl.1 rfl (Nat.le_of_ble_eq_true rfl) dX2_alike_104 ⟨(Nat.zero_le _), (Nat.zero_le _)⟩ (fun r6 hr6 => ?_)
      replace hr6 : r6 = bI (pAlikeB t a b) := hr6
      cases b7 : pAlikeB t a b
      · replace hr6 : r6 = 0 := by rw [hr6, b7]; rfl
        subst hr6
        exact reZ hx hb hr hlocks dX2_alike_107 (by first | exact Or.inl rfl | exact Or.inr rfl | exact bI_01 _ | (rename_i h9; rw [h9]; exact bI_01 _) | (subst_vars; exact bI_01 _)) (by first | (simp only [pAlike, bI, c3, c5, b7, decide_true, decide_false, Bool.not_true, Bool.not_false, Bool.and_true, Bool.true_and, Bool.and_false, Bool.false_and, Bool.or_true, Bool.true_or, Bool.or_false, Bool.false_or, Bool.and_self, Bool.or_self, if_true, if_false, ite_true, ite_false, Bool.false_eq_true, reduceIte, not_true_eq_false, not_false_eq_true, and_true, true_and, and_false, false_and, or_true, true_or, or_false, false_or, and_self, or_self, eq_self, decide_eq_true_eq, Bool.true_eq_false, reduceCtorEq, ne_eq]; done) | (simp [pAlike, bI, c3, c5, b7]; done))
      · replace hr6 : r6 = 1 := by rw [hr6, b7]; rfl
        subst hr6
        exact reZ hx hb hr hlocks dX2_alike_107 (by first | exact Or.inl rfl | exact Or.inr rfl | exact bI_01 _ | (rename_i h9; rw [h9]; exact bI_01 _) | (subst_vars; exact bI_01 _)) (by first | (simp only [pAlike, bI, c3, c5, b7, decide_true, decide_false, Bool.not_true, Bool.not_false, Bool.and_true, Bool.true_and, Bool.and_false, Bool.false_and, Bool.or_true, Bool.true_or, Bool.or_false, Bool.false_or, Bool.and_self, Bool.or_self, if_true, if_false, ite_true, ite_false, Bool.false_eq_true, reduceIte, not_true_eq_false, not_false_eq_true, and_true, true_and, and_false, false_and, or_true, true_or, or_false, false_or, and_self, or_self, eq_self, decide_eq_true_eq, Bool.true_eq_false, reduceCtorEq, ne_eq]; done) | (simp [pAlike, bI, c3, c5, b7]; done))
    · skip
      refine lv_aload_n hx hb dX2_alike_73 rfl (lv_at hl 2 rfl) ?_
      refine lv_iload_n hx hb dX2_alike_74 rfl (lv_at hl 3 rfl) ?_
      refine rcI (As := [.int a]) (rest := []) ⟨hx, hb, hml, hown, hts⟩ (c_X2_nameOf l D Y ad t a hok) (cwV 1 hts gX2_alike_X2_nameOf rfl rfl rfl hdX2_nameOf ⟨Nat.le_of_ble_eq_true rfl, Nat.le_of_ble_eq_true rfl⟩) hP hK 0 3 rfl rfl rfl hl.1 rfl (Nat.le_of_ble_eq_true rfl) dX2_alike_75 ⟨(Nat.zero_le _), (Nat.zero_le _)⟩ (fun r8 hr8 => ?_)
      obtain rfl : r8 = pName t a := hr8
      refine lv_iconst (v := (-1)) hx hb dX2_alike_78 (by decide) ?_
      refine lv_icmp_eq (tgt := 99) hx hb dX2_alike_79 (by decide) (fun c9 => ?_) (fun c9 => ?_)
      · skip
        refine lv_iconst (v := 0) hx hb dX2_alike_99 (by decide) ?_
        exact reZ hx hb hr hlocks dX2_alike_100 (by first | exact Or.inl rfl | exact Or.inr rfl | exact bI_01 _ | (rename_i h9; rw [h9]; exact bI_01 _) | (subst_vars; exact bI_01 _)) (by first | (simp only [pAlike, bI, c3, c5, c9, decide_true, decide_false, Bool.not_true, Bool.not_false, Bool.and_true, Bool.true_and, Bool.and_false, Bool.false_and, Bool.or_true, Bool.true_or, Bool.or_false, Bool.false_or, Bool.and_self, Bool.or_self, if_true, if_false, ite_true, ite_false, Bool.false_eq_true, reduceIte, not_true_eq_false, not_false_eq_true, and_true, true_and, and_false, false_and, or_true, true_or, or_false, false_or, and_self, or_self, eq_self, decide_eq_true_eq, Bool.true_eq_false, reduceCtorEq, ne_eq]; done) | (simp [pAlike, bI, c3, c5, c9]; done) | (simp only [pAlike, bI, c3, eq_true c5, eq_true c9, decide_true, decide_false, Bool.not_true, Bool.not_false, Bool.and_true, Bool.true_and, Bool.and_false, Bool.false_and, Bool.or_true, Bool.true_or, Bool.or_false, Bool.false_or, Bool.and_self, Bool.or_self, if_true, if_false, ite_true, ite_false, Bool.false_eq_true, reduceIte, not_true_eq_false, not_false_eq_true, and_true, true_and, and_false, false_and, or_true, true_or, or_false, false_or, and_self, or_self, eq_self, decide_eq_true_eq, Bool.true_eq_false, reduceCtorEq, ne_eq]; done) | (simp [pAlike, bI, c3, eq_true c5, eq_true c9]; done))
      · skip
        refine lv_aload_n hx hb dX2_alike_82 rfl (lv_at hl 2 rfl) ?_
        refine lv_iload_n hx hb dX2_alike_83 rfl (lv_at hl 3 rfl) ?_
        refine rcI (As := [.int a]) (rest := []) ⟨hx, hb, hml, hown, hts⟩ (c_X2_nameOf l D Y ad t a hok) (cwV 1 hts gX2_alike_X2_nameOf rfl rfl rfl hdX2_nameOf ⟨Nat.le_of_ble_eq_true rfl, Nat.le_of_ble_eq_true rfl⟩) hP hK 0 3 rfl rfl rfl hl.1 rfl (Nat.le_of_ble_eq_true rfl) dX2_alike_84 ⟨(Nat.zero_le _), (Nat.zero_le _)⟩ (fun r10 hr10 => ?_)
        obtain rfl : r10 = pName t a := hr10
        refine lv_aload_n hx hb dX2_alike_87 rfl (lv_at hl 2 rfl) ?_
        refine lv_iload_n hx hb dX2_alike_88 rfl (lv_at hl 4 rfl) ?_
        refine rcI (As := [.int b]) (rest := [.int (pName t a)]) ⟨hx, hb, hml, hown, hts⟩ (c_X2_nameOf l D Y ad t b hok) (cwV 1 hts gX2_alike_X2_nameOf rfl rfl rfl hdX2_nameOf ⟨Nat.le_of_ble_eq_true rfl, Nat.le_of_ble_eq_true rfl⟩) hP hK 0 3 rfl rfl rfl hl.1 rfl (Nat.le_of_ble_eq_true rfl) dX2_alike_89 ⟨(Nat.zero_le _), (Nat.zero_le _)⟩ (fun r11 hr11 => ?_)
        obtain rfl : r11 = pName t b := hr11
        refine lv_icmp_ne (tgt := 99) hx hb dX2_alike_92 (by decide) (fun c12 => ?_) (fun c12 => ?_)
        · skip
          refine lv_iconst (v := 0) hx hb dX2_alike_99 (by decide) ?_
          exact reZ hx hb hr hlocks dX2_alike_100 (by first | exact Or.inl rfl | exact Or.inr rfl | exact bI_01 _ | (rename_i h9; rw [h9]; exact bI_01 _) | (subst_vars; exact bI_01 _)) (by first | (simp only [pAlike, bI, c3, c5, c9, c12, decide_true, decide_false, Bool.not_true, Bool.not_false, Bool.and_true, Bool.true_and, Bool.and_false, Bool.false_and, Bool.or_true, Bool.true_or, Bool.or_false, Bool.false_or, Bool.and_self, Bool.or_self, if_true, if_false, ite_true, ite_false, Bool.false_eq_true, reduceIte, not_true_eq_false, not_false_eq_true, and_true, true_and, and_false, false_and, or_true, true_or, or_false, false_or, and_self, or_self, eq_self, decide_eq_true_eq, Bool.true_eq_false, reduceCtorEq, ne_eq]; done) | (simp [pAlike, bI, c3, c5, c9, c12]; done) | (simp only [pAlike, bI, c3, eq_true c5, c9, c12, decide_true, decide_false, Bool.not_true, Bool.not_false, Bool.and_true, Bool.true_and, Bool.and_false, Bool.false_and, Bool.or_true, Bool.true_or, Bool.or_false, Bool.false_or, Bool.and_self, Bool.or_self, if_true, if_false, ite_true, ite_false, Bool.false_eq_true, reduceIte, not_true_eq_false, not_false_eq_true, and_true, true_and, and_false, false_and, or_true, true_or, or_false, false_or, and_self, or_self, eq_self, decide_eq_true_eq, Bool.true_eq_false, reduceCtorEq, ne_eq]; done) | (simp [pAlike, bI, c3, eq_true c5, c9, c12]; done))
        · skip
          refine lv_iconst (v := 1) hx hb dX2_alike_95 (by decide) ?_
          refine lv_goto (tgt := 100) hx hb dX2_alike_96 (by decide) ?_
          exact reZ hx hb hr hlocks dX2_alike_100 (by first | exact Or.inl rfl | exact Or.inr rfl | exact bI_01 _ | (rename_i h9; rw [h9]; exact bI_01 _) | (subst_vars; exact bI_01 _)) (by first | (simp only [pAlike, bI, c3, c5, c9, eq_true c12, decide_true, decide_false, Bool.not_true, Bool.not_false, Bool.and_true, Bool.true_and, Bool.and_false, Bool.false_and, Bool.or_true, Bool.true_or, Bool.or_false, Bool.false_or, Bool.and_self, Bool.or_self, if_true, if_false, ite_true, ite_false, Bool.false_eq_true, reduceIte, not_true_eq_false, not_false_eq_true, and_true, true_and, and_false, false_and, or_true, true_or, or_false, false_or, and_self, or_self, eq_self, decide_eq_true_eq, Bool.true_eq_false, reduceCtorEq, ne_eq]; done) | (simp [pAlike, bI, c3, c5, c9, eq_true c12]; done) | (simp only [pAlike, bI, c3, eq_true c5, c9, eq_true c12, decide_true, decide_false, Bool.not_true, Bool.not_false, Bool.and_true, Bool.true_and, Bool.and_false, Bool.false_and, Bool.or_true, Bool.true_or, Bool.or_false, Bool.false_or, Bool.and_self, Bool.or_self, if_true, if_false, ite_true, ite_false, Bool.false_eq_true, reduceIte, not_true_eq_false, not_false_eq_true, and_true, true_and, and_false, false_and, or_true, true_or, or_false, false_or, and_self, or_self, eq_self, decide_eq_true_eq, Bool.true_eq_false, reduceCtorEq, ne_eq]; done) | (simp [pAlike, bI, c3, eq_true c5, c9, eq_true c12]; done))
  · skip
    refine lv_iload hx hb dX2_alike_24 (lv_at hl 0 rfl) ?_
    refine lv_iconst (v := 4) hx hb dX2_alike_26 (by decide) ?_
    refine lv_icmp_ne (tgt := 62) hx hb dX2_alike_27 (by decide) (fun c13 => ?_) (fun c13 => ?_)
    · skip
      refine lv_iload_n hx hb dX2_alike_62 rfl (lv_at hl 1 rfl) ?_
      refine lv_iconst (v := 4) hx hb dX2_alike_63 (by decide) ?_
      refine lv_icmp_eq (tgt := 73) hx hb dX2_alike_64 (by decide) (fun _ => ?_) (fun c14 => absurd c3 c14)
      refine lv_aload_n hx hb dX2_alike_73 rfl (lv_at hl 2 rfl) ?_
      refine lv_iload_n hx hb dX2_alike_74 rfl (lv_at hl 3 rfl) ?_
      refine rcI (As := [.int a]) (rest := []) ⟨hx, hb, hml, hown, hts⟩ (c_X2_nameOf l D Y ad t a hok) (cwV 1 hts gX2_alike_X2_nameOf rfl rfl rfl hdX2_nameOf ⟨Nat.le_of_ble_eq_true rfl, Nat.le_of_ble_eq_true rfl⟩) hP hK 0 3 rfl rfl rfl hl.1 rfl (Nat.le_of_ble_eq_true rfl) dX2_alike_75 ⟨(Nat.zero_le _), (Nat.zero_le _)⟩ (fun r15 hr15 => ?_)
      obtain rfl : r15 = pName t a := hr15
      refine lv_iconst (v := (-1)) hx hb dX2_alike_78 (by decide) ?_
      refine lv_icmp_eq (tgt := 99) hx hb dX2_alike_79 (by decide) (fun c16 => ?_) (fun c16 => ?_)
      · skip
        refine lv_iconst (v := 0) hx hb dX2_alike_99 (by decide) ?_
        exact reZ hx hb hr hlocks dX2_alike_100 (by first | exact Or.inl rfl | exact Or.inr rfl | exact bI_01 _ | (rename_i h9; rw [h9]; exact bI_01 _) | (subst_vars; exact bI_01 _)) (by first | (simp only [pAlike, bI, c3, c13, c16, decide_true, decide_false, Bool.not_true, Bool.not_false, Bool.and_true, Bool.true_and, Bool.and_false, Bool.false_and, Bool.or_true, Bool.true_or, Bool.or_false, Bool.false_or, Bool.and_self, Bool.or_self, if_true, if_false, ite_true, ite_false, Bool.false_eq_true, reduceIte, not_true_eq_false, not_false_eq_true, and_true, true_and, and_false, false_and, or_true, true_or, or_false, false_or, and_self, or_self, eq_self, decide_eq_true_eq, Bool.true_eq_false, reduceCtorEq, ne_eq]; done) | (simp [pAlike, bI, c3, c13, c16]; done) | (simp only [pAlike, bI, eq_true c3, c13, eq_true c16, decide_true, decide_false, Bool.not_true, Bool.not_false, Bool.and_true, Bool.true_and, Bool.and_false, Bool.false_and, Bool.or_true, Bool.true_or, Bool.or_false, Bool.false_or, Bool.and_self, Bool.or_self, if_true, if_false, ite_true, ite_false, Bool.false_eq_true, reduceIte, not_true_eq_false, not_false_eq_true, and_true, true_and, and_false, false_and, or_true, true_or, or_false, false_or, and_self, or_self, eq_self, decide_eq_true_eq, Bool.true_eq_false, reduceCtorEq, ne_eq]; done) | (simp [pAlike, bI, eq_true c3, c13, eq_true c16]; done))
      · skip
        refine lv_aload_n hx hb dX2_alike_82 rfl (lv_at hl 2 rfl) ?_
        refine lv_iload_n hx hb dX2_alike_83 rfl (lv_at hl 3 rfl) ?_
        refine rcI (As := [.int a]) (rest := []) ⟨hx, hb, hml, hown, hts⟩ (c_X2_nameOf l D Y ad t a hok) (cwV 1 hts gX2_alike_X2_nameOf rfl rfl rfl hdX2_nameOf ⟨Nat.le_of_ble_eq_true rfl, Nat.le_of_ble_eq_true rfl⟩) hP hK 0 3 rfl rfl rfl hl.1 rfl (Nat.le_of_ble_eq_true rfl) dX2_alike_84 ⟨(Nat.zero_le _), (Nat.zero_le _)⟩ (fun r17 hr17 => ?_)
        obtain rfl : r17 = pName t a := hr17
        refine lv_aload_n hx hb dX2_alike_87 rfl (lv_at hl 2 rfl) ?_
        refine lv_iload_n hx hb dX2_alike_88 rfl (lv_at hl 4 rfl) ?_
        refine rcI (As := [.int b]) (rest := [.int (pName t a)]) ⟨hx, hb, hml, hown, hts⟩ (c_X2_nameOf l D Y ad t b hok) (cwV 1 hts gX2_alike_X2_nameOf rfl rfl rfl hdX2_nameOf ⟨Nat.le_of_ble_eq_true rfl, Nat.le_of_ble_eq_true rfl⟩) hP hK 0 3 rfl rfl rfl hl.1 rfl (Nat.le_of_ble_eq_true rfl) dX2_alike_89 ⟨(Nat.zero_le _), (Nat.zero_le _)⟩ (fun r18 hr18 => ?_)
        obtain rfl : r18 = pName t b := hr18
        refine lv_icmp_ne (tgt := 99) hx hb dX2_alike_92 (by decide) (fun c19 => ?_) (fun c19 => ?_)
        · skip
          refine lv_iconst (v := 0) hx hb dX2_alike_99 (by decide) ?_
          exact reZ hx hb hr hlocks dX2_alike_100 (by first | exact Or.inl rfl | exact Or.inr rfl | exact bI_01 _ | (rename_i h9; rw [h9]; exact bI_01 _) | (subst_vars; exact bI_01 _)) (by first | (simp only [pAlike, bI, c3, c13, c16, c19, decide_true, decide_false, Bool.not_true, Bool.not_false, Bool.and_true, Bool.true_and, Bool.and_false, Bool.false_and, Bool.or_true, Bool.true_or, Bool.or_false, Bool.false_or, Bool.and_self, Bool.or_self, if_true, if_false, ite_true, ite_false, Bool.false_eq_true, reduceIte, not_true_eq_false, not_false_eq_true, and_true, true_and, and_false, false_and, or_true, true_or, or_false, false_or, and_self, or_self, eq_self, decide_eq_true_eq, Bool.true_eq_false, reduceCtorEq, ne_eq]; done) | (simp [pAlike, bI, c3, c13, c16, c19]; done) | (simp only [pAlike, bI, eq_true c3, c13, c16, c19, decide_true, decide_false, Bool.not_true, Bool.not_false, Bool.and_true, Bool.true_and, Bool.and_false, Bool.false_and, Bool.or_true, Bool.true_or, Bool.or_false, Bool.false_or, Bool.and_self, Bool.or_self, if_true, if_false, ite_true, ite_false, Bool.false_eq_true, reduceIte, not_true_eq_false, not_false_eq_true, and_true, true_and, and_false, false_and, or_true, true_or, or_false, false_or, and_self, or_self, eq_self, decide_eq_true_eq, Bool.true_eq_false, reduceCtorEq, ne_eq]; done) | (simp [pAlike, bI, eq_true c3, c13, c16, c19]; done))
        · skip
          refine lv_iconst (v := 1) hx hb dX2_alike_95 (by decide) ?_
          refine lv_goto (tgt := 100) hx hb dX2_alike_96 (by decide) ?_
          exact reZ hx hb hr hlocks dX2_alike_100 (by first | exact Or.inl rfl | exact Or.inr rfl | exact bI_01 _ | (rename_i h9; rw [h9]; exact bI_01 _) | (subst_vars; exact bI_01 _)) (by first | (simp only [pAlike, bI, c3, c13, c16, eq_true c19, decide_true, decide_false, Bool.not_true, Bool.not_false, Bool.and_true, Bool.true_and, Bool.and_false, Bool.false_and, Bool.or_true, Bool.true_or, Bool.or_false, Bool.false_or, Bool.and_self, Bool.or_self, if_true, if_false, ite_true, ite_false, Bool.false_eq_true, reduceIte, not_true_eq_false, not_false_eq_true, and_true, true_and, and_false, false_and, or_true, true_or, or_false, false_or, and_self, or_self, eq_self, decide_eq_true_eq, Bool.true_eq_false, reduceCtorEq, ne_eq]; done) | (simp [pAlike, bI, c3, c13, c16, eq_true c19]; done) | (simp only [pAlike, bI, eq_true c3, c13, c16, eq_true c19, decide_true, decide_false, Bool.not_true, Bool.not_false, Bool.and_true, Bool.true_and, Bool.and_false, Bool.false_and, Bool.or_true, Bool.true_or, Bool.or_false, Bool.false_or, Bool.and_self, Bool.or_self, if_true, if_false, ite_true, ite_false, Bool.false_eq_true, reduceIte, not_true_eq_false, not_false_eq_true, and_true, true_and, and_false, false_and, or_true, true_or, or_false, false_or, and_self, or_self, eq_self, decide_eq_true_eq, Bool.true_eq_false, reduceCtorEq, ne_eq]; done) | (simp [pAlike, bI, eq_true c3, c13, c16, eq_true c19]; done))
    · skip
      refine lv_aload_n hx hb dX2_alike_30 rfl (lv_at hl 2 rfl) ?_
      refine lv_iload_n hx hb dX2_alike_31 rfl (lv_at hl 3 rfl) ?_
      refine rcI (As := [.int a]) (rest := []) ⟨hx, hb, hml, hown, hts⟩ (c_X2_readableString l D Y ad t a hok) (cwV 1 hts gX2_alike_X2_readableString rfl rfl rfl hdX2_readableString ⟨Nat.le_of_ble_eq_true rfl, Nat.le_of_ble_eq_true rfl⟩) hP hK 0 3 rfl rfl rfl hl.1 rfl (Nat.le_of_ble_eq_true rfl) dX2_alike_32 ⟨(Nat.zero_le _), (Nat.zero_le _)⟩ (fun r20 hr20 => ?_)
      replace hr20 : r20 = bI (pRStr t a) := hr20
      cases b21 : pRStr t a
      · replace hr20 : r20 = 0 := by rw [hr20, b21]; rfl
        subst hr20
        refine lv_if_eq (tgt := 60) hx hb dX2_alike_35 (by decide) (fun _ => ?_) (fun c22 => absurd (by decide) c22)
        refine lv_iconst (v := 0) hx hb dX2_alike_60 (by decide) ?_
        exact reZ hx hb hr hlocks dX2_alike_61 (by first | exact Or.inl rfl | exact Or.inr rfl | exact bI_01 _ | (rename_i h9; rw [h9]; exact bI_01 _) | (subst_vars; exact bI_01 _)) (by first | (simp only [pAlike, bI, c3, c13, b21, decide_true, decide_false, Bool.not_true, Bool.not_false, Bool.and_true, Bool.true_and, Bool.and_false, Bool.false_and, Bool.or_true, Bool.true_or, Bool.or_false, Bool.false_or, Bool.and_self, Bool.or_self, if_true, if_false, ite_true, ite_false, Bool.false_eq_true, reduceIte, not_true_eq_false, not_false_eq_true, and_true, true_and, and_false, false_and, or_true, true_or, or_false, false_or, and_self, or_self, eq_self, decide_eq_true_eq, Bool.true_eq_false, reduceCtorEq, ne_eq]; done) | (simp [pAlike, bI, c3, c13, b21]; done) | (simp only [pAlike, bI, eq_true c3, eq_true c13, b21, decide_true, decide_false, Bool.not_true, Bool.not_false, Bool.and_true, Bool.true_and, Bool.and_false, Bool.false_and, Bool.or_true, Bool.true_or, Bool.or_false, Bool.false_or, Bool.and_self, Bool.or_self, if_true, if_false, ite_true, ite_false, Bool.false_eq_true, reduceIte, not_true_eq_false, not_false_eq_true, and_true, true_and, and_false, false_and, or_true, true_or, or_false, false_or, and_self, or_self, eq_self, decide_eq_true_eq, Bool.true_eq_false, reduceCtorEq, ne_eq]; done) | (simp [pAlike, bI, eq_true c3, eq_true c13, b21]; done))
      · replace hr20 : r20 = 1 := by rw [hr20, b21]; rfl
        subst hr20
        refine lv_if_eq (tgt := 60) hx hb dX2_alike_35 (by decide) (fun c23 => absurd c23 (by decide)) (fun _ => ?_)
        refine lv_aload_n hx hb dX2_alike_38 rfl (lv_at hl 2 rfl) ?_
        refine lv_iload_n hx hb dX2_alike_39 rfl (lv_at hl 4 rfl) ?_
        refine rcI (As := [.int b]) (rest := []) ⟨hx, hb, hml, hown, hts⟩ (c_X2_readableString l D Y ad t b hok) (cwV 1 hts gX2_alike_X2_readableString rfl rfl rfl hdX2_readableString ⟨Nat.le_of_ble_eq_true rfl, Nat.le_of_ble_eq_true rfl⟩) hP hK 0 3 rfl rfl rfl hl.1 rfl (Nat.le_of_ble_eq_true rfl) dX2_alike_40 ⟨(Nat.zero_le _), (Nat.zero_le _)⟩ (fun r24 hr24 => ?_)
        replace hr24 : r24 = bI (pRStr t b) := hr24
        cases b25 : pRStr t b
        · replace hr24 : r24 = 0 := by rw [hr24, b25]; rfl
          subst hr24
          refine lv_if_eq (tgt := 60) hx hb dX2_alike_43 (by decide) (fun _ => ?_) (fun c26 => absurd (by decide) c26)
          refine lv_iconst (v := 0) hx hb dX2_alike_60 (by decide) ?_
          exact reZ hx hb hr hlocks dX2_alike_61 (by first | exact Or.inl rfl | exact Or.inr rfl | exact bI_01 _ | (rename_i h9; rw [h9]; exact bI_01 _) | (subst_vars; exact bI_01 _)) (by first | (simp only [pAlike, bI, c3, c13, b21, b25, decide_true, decide_false, Bool.not_true, Bool.not_false, Bool.and_true, Bool.true_and, Bool.and_false, Bool.false_and, Bool.or_true, Bool.true_or, Bool.or_false, Bool.false_or, Bool.and_self, Bool.or_self, if_true, if_false, ite_true, ite_false, Bool.false_eq_true, reduceIte, not_true_eq_false, not_false_eq_true, and_true, true_and, and_false, false_and, or_true, true_or, or_false, false_or, and_self, or_self, eq_self, decide_eq_true_eq, Bool.true_eq_false, reduceCtorEq, ne_eq]; done) | (simp [pAlike, bI, c3, c13, b21, b25]; done) | (simp only [pAlike, bI, eq_true c3, eq_true c13, b21, b25, decide_true, decide_false, Bool.not_true, Bool.not_false, Bool.and_true, Bool.true_and, Bool.and_false, Bool.false_and, Bool.or_true, Bool.true_or, Bool.or_false, Bool.false_or, Bool.and_self, Bool.or_self, if_true, if_false, ite_true, ite_false, Bool.false_eq_true, reduceIte, not_true_eq_false, not_false_eq_true, and_true, true_and, and_false, false_and, or_true, true_or, or_false, false_or, and_self, or_self, eq_self, decide_eq_true_eq, Bool.true_eq_false, reduceCtorEq, ne_eq]; done) | (simp [pAlike, bI, eq_true c3, eq_true c13, b21, b25]; done))
        · replace hr24 : r24 = 1 := by rw [hr24, b25]; rfl
          subst hr24
          refine lv_if_eq (tgt := 60) hx hb dX2_alike_43 (by decide) (fun c27 => absurd c27 (by decide)) (fun _ => ?_)
          refine lv_aload_n hx hb dX2_alike_46 rfl (lv_at hl 2 rfl) ?_
          refine lv_iload_n hx hb dX2_alike_47 rfl (lv_at hl 3 rfl) ?_
          refine lv_iload_n hx hb dX2_alike_48 rfl (lv_at hl 4 rfl) ?_
          refine rcI (As := [.int a, .int b]) (rest := []) ⟨hx, hb, hml, hown, hts⟩ (c_X2_orderOfBytes l D Y ad t a b hok) (cwV 2 hts gX2_alike_X2_orderOfBytes rfl rfl rfl hdX2_orderOfBytes ⟨Nat.le_of_ble_eq_true rfl, Nat.le_of_ble_eq_true rfl⟩) hP hK 0 3 rfl rfl rfl hl.1 rfl (Nat.le_of_ble_eq_true rfl) dX2_alike_49 ⟨(Nat.zero_le _), (Nat.zero_le _)⟩ (fun r28 hr28 => ?_)
          obtain rfl : r28 = pOrdB t a b := hr28
          refine lv_iconst (v := 1) hx hb dX2_alike_52 (by decide) ?_
          refine lv_icmp_ne (tgt := 60) hx hb dX2_alike_53 (by decide) (fun c29 => ?_) (fun c29 => ?_)
          · skip
            refine lv_iconst (v := 0) hx hb dX2_alike_60 (by decide) ?_
            exact reZ hx hb hr hlocks dX2_alike_61 (by first | exact Or.inl rfl | exact Or.inr rfl | exact bI_01 _ | (rename_i h9; rw [h9]; exact bI_01 _) | (subst_vars; exact bI_01 _)) (by first | (simp only [pAlike, bI, c3, c13, b21, b25, c29, decide_true, decide_false, Bool.not_true, Bool.not_false, Bool.and_true, Bool.true_and, Bool.and_false, Bool.false_and, Bool.or_true, Bool.true_or, Bool.or_false, Bool.false_or, Bool.and_self, Bool.or_self, if_true, if_false, ite_true, ite_false, Bool.false_eq_true, reduceIte, not_true_eq_false, not_false_eq_true, and_true, true_and, and_false, false_and, or_true, true_or, or_false, false_or, and_self, or_self, eq_self, decide_eq_true_eq, Bool.true_eq_false, reduceCtorEq, ne_eq]; done) | (simp [pAlike, bI, c3, c13, b21, b25, c29]; done) | (simp only [pAlike, bI, eq_true c3, eq_true c13, b21, b25, c29, decide_true, decide_false, Bool.not_true, Bool.not_false, Bool.and_true, Bool.true_and, Bool.and_false, Bool.false_and, Bool.or_true, Bool.true_or, Bool.or_false, Bool.false_or, Bool.and_self, Bool.or_self, if_true, if_false, ite_true, ite_false, Bool.false_eq_true, reduceIte, not_true_eq_false, not_false_eq_true, and_true, true_and, and_false, false_and, or_true, true_or, or_false, false_or, and_self, or_self, eq_self, decide_eq_true_eq, Bool.true_eq_false, reduceCtorEq, ne_eq]; done) | (simp [pAlike, bI, eq_true c3, eq_true c13, b21, b25, c29]; done))
          · skip
            refine lv_iconst (v := 1) hx hb dX2_alike_56 (by decide) ?_
            refine lv_goto (tgt := 61) hx hb dX2_alike_57 (by decide) ?_
            exact reZ hx hb hr hlocks dX2_alike_61 (by first | exact Or.inl rfl | exact Or.inr rfl | exact bI_01 _ | (rename_i h9; rw [h9]; exact bI_01 _) | (subst_vars; exact bI_01 _)) (by first | (simp only [pAlike, bI, c3, c13, b21, b25, c29, decide_true, decide_false, Bool.not_true, Bool.not_false, Bool.and_true, Bool.true_and, Bool.and_false, Bool.false_and, Bool.or_true, Bool.true_or, Bool.or_false, Bool.false_or, Bool.and_self, Bool.or_self, if_true, if_false, ite_true, ite_false, Bool.false_eq_true, reduceIte, not_true_eq_false, not_false_eq_true, and_true, true_and, and_false, false_and, or_true, true_or, or_false, false_or, and_self, or_self, eq_self, decide_eq_true_eq, Bool.true_eq_false, reduceCtorEq, ne_eq]; done) | (simp [pAlike, bI, c3, c13, b21, b25, c29]; done) | (simp only [pAlike, bI, eq_true c3, eq_true c13, b21, b25, eq_true c29, decide_true, decide_false, Bool.not_true, Bool.not_false, Bool.and_true, Bool.true_and, Bool.and_false, Bool.false_and, Bool.or_true, Bool.true_or, Bool.or_false, Bool.false_or, Bool.and_self, Bool.or_self, if_true, if_false, ite_true, ite_false, Bool.false_eq_true, reduceIte, not_true_eq_false, not_false_eq_true, and_true, true_and, and_false, false_and, or_true, true_or, or_false, false_or, and_self, or_self, eq_self, decide_eq_true_eq, Bool.true_eq_false, reduceCtorEq, ne_eq]; done) | (simp [pAlike, bI, eq_true c3, eq_true c13, b21, b25, eq_true c29]; done))
theorem hdX2_alike : yX2_alike.cls = RX2 ∧ yX2_alike.cls ≠ "java/lang/invoke/MethodHandle" ∧ yX2_alike.cls ≠ "java/lang/invoke/VarHandle" ∧ (parseMethodDescriptor yX2_alike.desc).map (fun d => d.parameters.length) = some 2 := by decide +kernel
set_option maxHeartbeats 4000000 in
set_option maxRecDepth 100000 in
theorem c_X2_placeOf (l : Launch) (D : va_G) (Y : Nat → ClassId) (ad : OA) (t : OS) (d : Int32) (k : Int32) (hok : oOK t) : Met l yX2_placeOf wsX2_placeOf ({ frames := 4, cells := 0, slots := 0, locals := 90 }) (rdPc D Y [.ref (oO ad), .int d, .int k] (oW Y ad t)) (vp_Si (fun ans => ans = pPlaceOf t d k)) 0 0 (fun _ => False) := by
  refine rdOf (cc := cX2_placeOf) (maxL := 5) (ret := (some .int)) (own := RX2) (by decide) rfl rfl (Nat.le_of_ble_eq_true rfl) ?_
  intro p e s m below meth c ls hx hb hr hts hown hml hlocks hP hK hl
  have iwX0 : ∀ w ∈ u_ws RX0 TX0 7, w ∈ wsX2_placeOf := fun _ h => List.mem_cons_of_mem _ (List.mem_append_left _ (List.mem_append_right _ h))
  have iwX2 : ∀ w ∈ u_ws RX2 TX2 10, w ∈ wsX2_placeOf := fun _ h => List.mem_cons_of_mem _ (List.mem_append_left _ (List.mem_append_left _ (List.mem_append_right _ h)))
  have hl : lv_has ls 5 [(0, .ref (oO ad)), (1, .int d), (2, .int k)] := hl
  refine lv_aload_n hx hb dX2_placeOf_0 rfl (lv_at hl 0 rfl) ?_
  refine va_get (D := D) (ci := 3) (v := .ref (oNow ad)) (C := RX2) (T := TX2) (N := 10) hx hb hts iwX2 hown hK hP 0 rfl rfl 6 (by decide) (hts (.fieldLink RX2 34 "ObjectRows" "now" "LObjectRows$Changing;") (by decide +kernel)) (fun _ h9 => h9) rfl dX2_placeOf_1 ?_
  refine va_get (D := D) (ci := 1) (v := .ref (oH ad 9)) (C := RX0) (T := TX0) (N := 7) hx hb hts iwX0 hown hK hP 1 rfl rfl 3 (by decide) (hts (.fieldLink RX2 159 "ObjectRows$Changing" "entries" "LObjectRows$Row;") (by decide +kernel)) (fun _ h9 => h9) rfl dX2_placeOf_4 ?_
  refine lv_aload_n hx hb dX2_placeOf_7 rfl (lv_at hl 0 rfl) ?_
  refine va_get (D := D) (ci := 3) (v := .ref (oH ad 2)) (C := RX2) (T := TX2) (N := 10) hx hb hts iwX2 hown hK hP 0 rfl rfl 2 (by decide) (hts (.fieldLink RX2 19 "ObjectRows" "owners" "LObjectRows$Row;") (by decide +kernel)) (fun _ h9 => h9) rfl dX2_placeOf_8 ?_
  refine lv_iload_n hx hb dX2_placeOf_11 rfl (lv_at hl 1 rfl) ?_
  refine rcI (As := [.int d]) (rest := [.ref (oH ad 9)]) ⟨hx, hb, hml, hown, hts⟩ (c_X1_at l D Y (oH ad 2) (oR t 2) d (hok 2 (by decide))) (cwV 1 hts gX2_placeOf_X1_at rfl rfl rfl hdX1_at ⟨Nat.le_of_ble_eq_true rfl, Nat.le_of_ble_eq_true rfl⟩) (oWr2 hP) hK 0 2 rfl rfl rfl hl.1 rfl (Nat.le_of_ble_eq_true rfl) dX2_placeOf_12 ⟨(Nat.zero_le _), (Nat.zero_le _)⟩ (fun r1 hr1 => ?_)
  obtain rfl : r1 = ow t d := hr1
  refine rcI (As := [.int (ow t d)]) (rest := []) ⟨hx, hb, hml, hown, hts⟩ (c_X1_at l D Y (oH ad 9) (oR t 9) (ow t d) (hok 9 (by decide))) (cwV 1 hts gX2_placeOf_X1_at rfl rfl rfl hdX1_at ⟨Nat.le_of_ble_eq_true rfl, Nat.le_of_ble_eq_true rfl⟩) (oWr9 hP) hK 0 2 rfl rfl rfl hl.1 rfl (Nat.le_of_ble_eq_true rfl) dX2_placeOf_15 ⟨(Nat.zero_le _), (Nat.zero_le _)⟩ (fun r2 hr2 => ?_)
  obtain rfl : r2 = rdN t (ow t d) := hr2
  refine lv_istore_n (lv' := [(3, .int (rdN t (ow t d))), (0, .ref (oO ad)), (1, .int d), (2, .int k)]) hx hb dX2_placeOf_18 rfl hl (by decide) rfl (fun ls hl => ?_)
  refine lv_iconst (v := 0) hx hb dX2_placeOf_19 (by decide) ?_
  refine lv_istore (lv' := [(4, .int 0), (3, .int (rdN t (ow t d))), (0, .ref (oO ad)), (1, .int d), (2, .int k)]) hx hb dX2_placeOf_20 hl (by decide) rfl (fun ls hl => ?_)
  have LP : ∀ (n : Nat) (z : Int32), ((rdN t (ow t d)).toInt - z.toInt).toNat < n → pPlaceL t d k n z = pPlaceOf t d k → ∀ ls : Array Slot, lv_has ls 5 [(4, .int z), (3, .int (rdN t (ow t d))), (0, .ref (oO ad)), (1, .int d), (2, .int k)] → W p l e ({ frames := 4, cells := 0, slots := 0, locals := 90 }) s m ([.ref (oO ad), .int d, .int k] : List Value).toArray below meth c s.heap [] 0 0 (MQ below (vp_Si (fun ans => ans = pPlaceOf t d k)) ([.ref (oO ad), .int d, .int k] : List Value).toArray s 0 0 (fun _ => False)) (F0 m 22 ls []) := by
    intro n
    induction n with
    | zero => intro z h9; exact absurd h9 (Nat.not_lt_zero _)
    | succ n ih =>
      intro z hz hv ls hl
      refine lv_iload hx hb dX2_placeOf_22 (lv_at hl 0 rfl) ?_
      refine lv_iload_n hx hb dX2_placeOf_24 rfl (lv_at hl 1 rfl) ?_
      refine lv_icmp_ge (tgt := 62) hx hb dX2_placeOf_25 (by decide) (fun c3 => ?_) (fun c3 => ?_)
      · skip
        refine lv_iconst (v := (-1)) hx hb dX2_placeOf_62 (by decide) ?_
        exact reI hx hb hr hlocks dX2_placeOf_63 (by first | (rw [← hv]; simp only [pPlaceL, c3, decide_true, decide_false, Bool.not_true, Bool.not_false, Bool.and_true, Bool.true_and, Bool.and_false, Bool.false_and, Bool.or_true, Bool.true_or, Bool.or_false, Bool.false_or, Bool.and_self, Bool.or_self, if_true, if_false, ite_true, ite_false, Bool.false_eq_true, reduceIte, not_true_eq_false, not_false_eq_true, and_true, true_and, and_false, false_and, or_true, true_or, or_false, false_or, and_self, or_self, eq_self, decide_eq_true_eq, Bool.true_eq_false, reduceCtorEq, ne_eq]; done) | (rw [← hv]; simp [pPlaceL, c3, Int32.not_lt.mpr c3]; done))
      · skip
        refine lv_aload_n hx hb dX2_placeOf_28 rfl (lv_at hl 2 rfl) ?_
        refine lv_aload_n hx hb dX2_placeOf_29 rfl (lv_at hl 2 rfl) ?_
        refine va_get (D := D) (ci := 3) (v := .ref (oNow ad)) (C := RX2) (T := TX2) (N := 10) hx hb hts iwX2 hown hK hP 0 rfl rfl 6 (by decide) (hts (.fieldLink RX2 34 "ObjectRows" "now" "LObjectRows$Changing;") (by decide +kernel)) (fun _ h9 => h9) rfl dX2_placeOf_30 ?_
        refine va_get (D := D) (ci := 1) (v := .ref (oH ad 11)) (C := RX0) (T := TX0) (N := 7) hx hb hts iwX0 hown hK hP 1 rfl rfl 5 (by decide) (hts (.fieldLink RX2 67 "ObjectRows$Changing" "elements" "LObjectRows$Row;") (by decide +kernel)) (fun _ h9 => h9) rfl dX2_placeOf_33 ?_
        refine lv_aload_n hx hb dX2_placeOf_36 rfl (lv_at hl 2 rfl) ?_
        refine lv_iload_n hx hb dX2_placeOf_37 rfl (lv_at hl 3 rfl) ?_
        refine lv_iload hx hb dX2_placeOf_38 (lv_at hl 0 rfl) ?_
        refine rcI (As := [.int d, .int z]) (rest := [.ref (oH ad 11), .ref (oO ad)]) ⟨hx, hb, hml, hown, hts⟩ (c_X2_keyCell l D Y ad t d z hok) (cwV 2 hts gX2_placeOf_X2_keyCell rfl rfl rfl hdX2_keyCell ⟨Nat.le_of_ble_eq_true rfl, Nat.le_of_ble_eq_true rfl⟩) hP hK 0 3 rfl rfl rfl hl.1 rfl (Nat.le_of_ble_eq_true rfl) dX2_placeOf_40 ⟨(Nat.zero_le _), (Nat.zero_le _)⟩ (fun r4 hr4 => ?_)
        obtain rfl : r4 = pKeyCell t d z := hr4
        refine rcI (As := [.int (pKeyCell t d z)]) (rest := [.ref (oO ad)]) ⟨hx, hb, hml, hown, hts⟩ (c_X1_at l D Y (oH ad 11) (oR t 11) (pKeyCell t d z) (hok 11 (by decide))) (cwV 1 hts gX2_placeOf_X1_at rfl rfl rfl hdX1_at ⟨Nat.le_of_ble_eq_true rfl, Nat.le_of_ble_eq_true rfl⟩) (oWr11 hP) hK 0 2 rfl rfl rfl hl.1 rfl (Nat.le_of_ble_eq_true rfl) dX2_placeOf_43 ⟨(Nat.zero_le _), (Nat.zero_le _)⟩ (fun r5 hr5 => ?_)
        obtain rfl : r5 = rdE t (pKeyCell t d z) := hr5
        refine lv_iload_n hx hb dX2_placeOf_46 rfl (lv_at hl 4 rfl) ?_
        refine rcI (As := [.int (rdE t (pKeyCell t d z)), .int k]) (rest := []) ⟨hx, hb, hml, hown, hts⟩ (c_X2_alikeKeys l D Y ad t (rdE t (pKeyCell t d z)) k hok) (cwV 2 hts gX2_placeOf_X2_alikeKeys rfl rfl rfl hdX2_alikeKeys ⟨Nat.le_of_ble_eq_true rfl, Nat.le_of_ble_eq_true rfl⟩) hP hK 0 3 rfl rfl rfl hl.1 rfl (Nat.le_of_ble_eq_true rfl) dX2_placeOf_47 ⟨(Nat.zero_le _), (Nat.zero_le _)⟩ (fun r6 hr6 => ?_)
        replace hr6 : r6 = bI (pAlikeKeys t (rdE t (pKeyCell t d z)) k) := hr6
        cases b7 : pAlikeKeys t (rdE t (pKeyCell t d z)) k
        · replace hr6 : r6 = 0 := by rw [hr6, b7]; rfl
          subst hr6
          refine lv_if_eq (tgt := 56) hx hb dX2_placeOf_50 (by decide) (fun _ => ?_) (fun c8 => absurd (by decide) c8)
          obtain ⟨z9, ez9⟩ : ∃ y : Int32, y = z + 1 := ⟨_, rfl⟩
          refine lv_iinc (v := z9) (lv' := [(4, .int z9), (3, .int (rdN t (ow t d))), (0, .ref (oO ad)), (1, .int d), (2, .int k)]) hx hb dX2_placeOf_56 hl (k := 0) rfl (by rw [ez9]; rfl) (by decide) rfl (fun ls hl => ?_)
          refine lv_goto (tgt := 22) hx hb dX2_placeOf_59 (by decide) ?_
          exact ih z9 (mstep c3 hz ez9) (by first | (rw [← hv]; simp only [pPlaceL, c3, b7, ez9, decide_true, decide_false, Bool.not_true, Bool.not_false, Bool.and_true, Bool.true_and, Bool.and_false, Bool.false_and, Bool.or_true, Bool.true_or, Bool.or_false, Bool.false_or, Bool.and_self, Bool.or_self, if_true, if_false, ite_true, ite_false, Bool.false_eq_true, reduceIte, not_true_eq_false, not_false_eq_true, and_true, true_and, and_false, false_and, or_true, true_or, or_false, false_or, and_self, or_self, eq_self, decide_eq_true_eq, Bool.true_eq_false, reduceCtorEq, ne_eq]; done) | (rw [← hv]; simp [pPlaceL, c3, b7, ez9, Int32.not_le.mp c3]; done)) ls (lv_sub hl [0, 1, 2, 3, 4] rfl)
        · replace hr6 : r6 = 1 := by rw [hr6, b7]; rfl
          subst hr6
          refine lv_if_eq (tgt := 56) hx hb dX2_placeOf_50 (by decide) (fun c10 => absurd c10 (by decide)) (fun _ => ?_)
          refine lv_iload hx hb dX2_placeOf_53 (lv_at hl 0 rfl) ?_
          exact reI hx hb hr hlocks dX2_placeOf_55 (by first | (rw [← hv]; simp only [pPlaceL, c3, b7, decide_true, decide_false, Bool.not_true, Bool.not_false, Bool.and_true, Bool.true_and, Bool.and_false, Bool.false_and, Bool.or_true, Bool.true_or, Bool.or_false, Bool.false_or, Bool.and_self, Bool.or_self, if_true, if_false, ite_true, ite_false, Bool.false_eq_true, reduceIte, not_true_eq_false, not_false_eq_true, and_true, true_and, and_false, false_and, or_true, true_or, or_false, false_or, and_self, or_self, eq_self, decide_eq_true_eq, Bool.true_eq_false, reduceCtorEq, ne_eq]; done) | (rw [← hv]; simp [pPlaceL, c3, b7, Int32.not_le.mp c3]; done))
  exact LP ((rdN t (ow t d)).toInt.toNat + 1) 0 (by rw [show ((0 : Int32)).toInt = 0 from rfl]; omega) (by rfl) ls (lv_sub hl [0, 1, 2, 3, 4] rfl)
theorem hdX2_placeOf : yX2_placeOf.cls = RX2 ∧ yX2_placeOf.cls ≠ "java/lang/invoke/MethodHandle" ∧ yX2_placeOf.cls ≠ "java/lang/invoke/VarHandle" ∧ (parseMethodDescriptor yX2_placeOf.desc).map (fun d => d.parameters.length) = some 2 := by decide +kernel
set_option maxHeartbeats 4000000 in
set_option maxRecDepth 100000 in
theorem c_X2_told (l : Launch) (D : va_G) (Y : Nat → ClassId) (ad : OA) (t : OS) (x : Int32) (w : Int32) (hok : oOK t) : Met l yX2_told wsX2_told ({ frames := 3, cells := 0, slots := 0, locals := 63 }) (rdPc D Y [.ref (oO ad), .int x, .int w] (oW Y ad t)) (vp_Si (fun ans => ans = pTold t x w)) 0 0 (fun _ => False) := by
  refine rdOf (cc := cX2_told) (maxL := 3) (ret := (some .int)) (own := RX2) (by decide) rfl rfl (Nat.le_of_ble_eq_true rfl) ?_
  intro p e s m below meth c ls hx hb hr hts hown hml hlocks hP hK hl
  have iwX0 : ∀ w ∈ u_ws RX0 TX0 7, w ∈ wsX2_told := fun _ h => List.mem_cons_of_mem _ (List.mem_append_left _ (List.mem_append_right _ h))
  have iwX2 : ∀ w ∈ u_ws RX2 TX2 10, w ∈ wsX2_told := fun _ h => List.mem_cons_of_mem _ (List.mem_append_left _ (List.mem_append_left _ (List.mem_append_right _ h)))
  have hl : lv_has ls 3 [(0, .ref (oO ad)), (1, .int x), (2, .int w)] := hl
  refine lv_aload_n hx hb dX2_told_0 rfl (lv_at hl 0 rfl) ?_
  refine lv_iload_n hx hb dX2_told_1 rfl (lv_at hl 1 rfl) ?_
  refine rcI (As := [.int x]) (rest := []) ⟨hx, hb, hml, hown, hts⟩ (c_X2_known l D Y ad t x hok) (cwV 1 hts gX2_told_X2_known rfl rfl rfl hdX2_known ⟨Nat.le_of_ble_eq_true rfl, Nat.le_of_ble_eq_true rfl⟩) hP hK 0 3 rfl rfl rfl hl.1 rfl (Nat.le_of_ble_eq_true rfl) dX2_told_2 ⟨(Nat.zero_le _), (Nat.zero_le _)⟩ (fun r1 hr1 => ?_)
  replace hr1 : r1 = bI (pKnown t x) := hr1
  cases b2 : pKnown t x
  · replace hr1 : r1 = 0 := by rw [hr1, b2]; rfl
    subst hr1
    refine lv_if_ne (tgt := 10) hx hb dX2_told_5 (by decide) (fun c3 => absurd (by decide) c3) (fun _ => ?_)
    refine lv_iconst (v := (-1)) hx hb dX2_told_8 (by decide) ?_
    exact reI hx hb hr hlocks dX2_told_9 (by first | (simp only [pTold, b2, decide_true, decide_false, Bool.not_true, Bool.not_false, Bool.and_true, Bool.true_and, Bool.and_false, Bool.false_and, Bool.or_true, Bool.true_or, Bool.or_false, Bool.false_or, Bool.and_self, Bool.or_self, if_true, if_false, ite_true, ite_false, Bool.false_eq_true, reduceIte, not_true_eq_false, not_false_eq_true, and_true, true_and, and_false, false_and, or_true, true_or, or_false, false_or, and_self, or_self, eq_self, decide_eq_true_eq, Bool.true_eq_false, reduceCtorEq, ne_eq]; done) | (simp [pTold, b2]; done))
  · replace hr1 : r1 = 1 := by rw [hr1, b2]; rfl
    subst hr1
    refine lv_if_ne (tgt := 10) hx hb dX2_told_5 (by decide) (fun _ => ?_) (fun c4 => absurd c4 (by decide))
    refine lv_iload_n hx hb dX2_told_10 rfl (lv_at hl 2 rfl) ?_
    by_cases c5 : w = 0
    · refine lv_tableIn (off := 33) (tgt := 44) hx hb dX2_told_11 (by rw [c5]; decide) (by rw [c5]; decide) (by rw [c5]; decide) (by decide) ?_
      refine lv_aload_n hx hb dX2_told_44 rfl (lv_at hl 0 rfl) ?_
      refine va_get (D := D) (ci := 3) (v := .ref (oNow ad)) (C := RX2) (T := TX2) (N := 10) hx hb hts iwX2 hown hK hP 0 rfl rfl 6 (by decide) (hts (.fieldLink RX2 34 "ObjectRows" "now" "LObjectRows$Changing;") (by decide +kernel)) (fun _ h9 => h9) rfl dX2_told_45 ?_
      refine va_get (D := D) (ci := 1) (v := .ref (oH ad 6)) (C := RX0) (T := TX0) (N := 7) hx hb hts iwX0 hown hK hP 1 rfl rfl 0 (by decide) (hts (.fieldLink RX2 126 "ObjectRows$Changing" "executables" "LObjectRows$Row;") (by decide +kernel)) (fun _ h9 => h9) rfl dX2_told_48 ?_
      refine lv_iload_n hx hb dX2_told_51 rfl (lv_at hl 1 rfl) ?_
      refine rcI (As := [.int x]) (rest := []) ⟨hx, hb, hml, hown, hts⟩ (c_X1_at l D Y (oH ad 6) (oR t 6) x (hok 6 (by decide))) (cwV 1 hts gX2_told_X1_at rfl rfl rfl hdX1_at ⟨Nat.le_of_ble_eq_true rfl, Nat.le_of_ble_eq_true rfl⟩) (oWr6 hP) hK 0 2 rfl rfl rfl hl.1 rfl (Nat.le_of_ble_eq_true rfl) dX2_told_52 ⟨(Nat.zero_le _), (Nat.zero_le _)⟩ (fun r6 hr6 => ?_)
      obtain rfl : r6 = rdX t x := hr6
      exact reI hx hb hr hlocks dX2_told_55 (by first | (simp only [pTold, b2, c5, decide_true, decide_false, Bool.not_true, Bool.not_false, Bool.and_true, Bool.true_and, Bool.and_false, Bool.false_and, Bool.or_true, Bool.true_or, Bool.or_false, Bool.false_or, Bool.and_self, Bool.or_self, if_true, if_false, ite_true, ite_false, Bool.false_eq_true, reduceIte, not_true_eq_false, not_false_eq_true, and_true, true_and, and_false, false_and, or_true, true_or, or_false, false_or, and_self, or_self, eq_self, decide_eq_true_eq, Bool.true_eq_false, reduceCtorEq, ne_eq]; done) | (simp [pTold, b2, c5]; done))
    by_cases c7 : w = 1
    · refine lv_tableIn (off := 45) (tgt := 56) hx hb dX2_told_11 (by rw [c7]; decide) (by rw [c7]; decide) (by rw [c7]; decide) (by decide) ?_
      refine lv_aload_n hx hb dX2_told_56 rfl (lv_at hl 0 rfl) ?_
      refine lv_iload_n hx hb dX2_told_57 rfl (lv_at hl 1 rfl) ?_
      refine rcI (As := [.int x]) (rest := []) ⟨hx, hb, hml, hown, hts⟩ (c_X2_accessOf l D Y ad t x hok) (cwV 1 hts gX2_told_X2_accessOf rfl rfl rfl hdX2_accessOf ⟨Nat.le_of_ble_eq_true rfl, Nat.le_of_ble_eq_true rfl⟩) hP hK 0 3 rfl rfl rfl hl.1 rfl (Nat.le_of_ble_eq_true rfl) dX2_told_58 ⟨(Nat.zero_le _), (Nat.zero_le _)⟩ (fun r8 hr8 => ?_)
      obtain rfl : r8 = pAcc t x := hr8
      exact reI hx hb hr hlocks dX2_told_61 (by first | (simp only [pTold, b2, c5, c7, decide_true, decide_false, Bool.not_true, Bool.not_false, Bool.and_true, Bool.true_and, Bool.and_false, Bool.false_and, Bool.or_true, Bool.true_or, Bool.or_false, Bool.false_or, Bool.and_self, Bool.or_self, if_true, if_false, ite_true, ite_false, Bool.false_eq_true, reduceIte, not_true_eq_false, not_false_eq_true, and_true, true_and, and_false, false_and, or_true, true_or, or_false, false_or, and_self, or_self, eq_self, decide_eq_true_eq, Bool.true_eq_false, reduceCtorEq, ne_eq]; done) | (simp [pTold, b2, c5, c7]; done))
    by_cases c9 : w = 2
    · refine lv_tableIn (off := 51) (tgt := 62) hx hb dX2_told_11 (by rw [c9]; decide) (by rw [c9]; decide) (by rw [c9]; decide) (by decide) ?_
      refine lv_aload_n hx hb dX2_told_62 rfl (lv_at hl 0 rfl) ?_
      refine va_get (D := D) (ci := 3) (v := .ref (oNow ad)) (C := RX2) (T := TX2) (N := 10) hx hb hts iwX2 hown hK hP 0 rfl rfl 6 (by decide) (hts (.fieldLink RX2 34 "ObjectRows" "now" "LObjectRows$Changing;") (by decide +kernel)) (fun _ h9 => h9) rfl dX2_told_63 ?_
      refine va_get (D := D) (ci := 1) (v := .ref (oH ad 10)) (C := RX0) (T := TX0) (N := 7) hx hb hts iwX0 hown hK hP 1 rfl rfl 4 (by decide) (hts (.fieldLink RX2 135 "ObjectRows$Changing" "growths" "LObjectRows$Row;") (by decide +kernel)) (fun _ h9 => h9) rfl dX2_told_66 ?_
      refine lv_aload_n hx hb dX2_told_69 rfl (lv_at hl 0 rfl) ?_
      refine va_get (D := D) (ci := 3) (v := .ref (oH ad 2)) (C := RX2) (T := TX2) (N := 10) hx hb hts iwX2 hown hK hP 0 rfl rfl 2 (by decide) (hts (.fieldLink RX2 19 "ObjectRows" "owners" "LObjectRows$Row;") (by decide +kernel)) (fun _ h9 => h9) rfl dX2_told_70 ?_
      refine lv_iload_n hx hb dX2_told_73 rfl (lv_at hl 1 rfl) ?_
      refine rcI (As := [.int x]) (rest := [.ref (oH ad 10)]) ⟨hx, hb, hml, hown, hts⟩ (c_X1_at l D Y (oH ad 2) (oR t 2) x (hok 2 (by decide))) (cwV 1 hts gX2_told_X1_at rfl rfl rfl hdX1_at ⟨Nat.le_of_ble_eq_true rfl, Nat.le_of_ble_eq_true rfl⟩) (oWr2 hP) hK 0 2 rfl rfl rfl hl.1 rfl (Nat.le_of_ble_eq_true rfl) dX2_told_74 ⟨(Nat.zero_le _), (Nat.zero_le _)⟩ (fun r10 hr10 => ?_)
      obtain rfl : r10 = ow t x := hr10
      refine rcI (As := [.int (ow t x)]) (rest := []) ⟨hx, hb, hml, hown, hts⟩ (c_X1_at l D Y (oH ad 10) (oR t 10) (ow t x) (hok 10 (by decide))) (cwV 1 hts gX2_told_X1_at rfl rfl rfl hdX1_at ⟨Nat.le_of_ble_eq_true rfl, Nat.le_of_ble_eq_true rfl⟩) (oWr10 hP) hK 0 2 rfl rfl rfl hl.1 rfl (Nat.le_of_ble_eq_true rfl) dX2_told_77 ⟨(Nat.zero_le _), (Nat.zero_le _)⟩ (fun r11 hr11 => ?_)
      obtain rfl : r11 = rdG t (ow t x) := hr11
      exact reI hx hb hr hlocks dX2_told_80 (by first | (simp only [pTold, b2, c5, c7, c9, decide_true, decide_false, Bool.not_true, Bool.not_false, Bool.and_true, Bool.true_and, Bool.and_false, Bool.false_and, Bool.or_true, Bool.true_or, Bool.or_false, Bool.false_or, Bool.and_self, Bool.or_self, if_true, if_false, ite_true, ite_false, Bool.false_eq_true, reduceIte, not_true_eq_false, not_false_eq_true, and_true, true_and, and_false, false_and, or_true, true_or, or_false, false_or, and_self, or_self, eq_self, decide_eq_true_eq, Bool.true_eq_false, reduceCtorEq, ne_eq]; done) | (simp [pTold, b2, c5, c7, c9]; done))
    by_cases c12 : w = 3
    · refine lv_tableIn (off := 70) (tgt := 81) hx hb dX2_told_11 (by rw [c12]; decide) (by rw [c12]; decide) (by rw [c12]; decide) (by decide) ?_
      refine lv_aload_n hx hb dX2_told_81 rfl (lv_at hl 0 rfl) ?_
      refine va_get (D := D) (ci := 3) (v := .ref (oH ad 0)) (C := RX2) (T := TX2) (N := 10) hx hb hts iwX2 hown hK hP 0 rfl rfl 0 (by decide) (hts (.fieldLink RX2 12 "ObjectRows" "kinds" "LObjectRows$Row;") (by decide +kernel)) (fun _ h9 => h9) rfl dX2_told_82 ?_
      refine lv_iload_n hx hb dX2_told_85 rfl (lv_at hl 1 rfl) ?_
      refine rcI (As := [.int x]) (rest := []) ⟨hx, hb, hml, hown, hts⟩ (c_X1_at l D Y (oH ad 0) (oR t 0) x (hok 0 (by decide))) (cwV 1 hts gX2_told_X1_at rfl rfl rfl hdX1_at ⟨Nat.le_of_ble_eq_true rfl, Nat.le_of_ble_eq_true rfl⟩) (oWr0 hP) hK 0 2 rfl rfl rfl hl.1 rfl (Nat.le_of_ble_eq_true rfl) dX2_told_86 ⟨(Nat.zero_le _), (Nat.zero_le _)⟩ (fun r13 hr13 => ?_)
      obtain rfl : r13 = kd t x := hr13
      refine scI (As := [.int (kd t x)]) (rest := []) ⟨hx, hb, hml, hown, hts⟩ (c_X2_hasNumber l (kd t x)) (va_cwS 1 hts gX2_told_X2_hasNumber rfl rfl rfl hdX2_hasNumber ⟨Nat.le_of_ble_eq_true rfl, Nat.le_of_ble_eq_true rfl⟩) rfl hl.1 rfl (Nat.le_of_ble_eq_true rfl) dX2_told_89 ⟨(Nat.zero_le _), (Nat.zero_le _)⟩ (fun r14 hr14 => ?_)
      replace hr14 : r14 = bI (pHasNum (kd t x)) := hr14
      cases b15 : pHasNum (kd t x)
      · replace hr14 : r14 = 0 := by rw [hr14, b15]; rfl
        subst hr14
        refine lv_if_eq (tgt := 106) hx hb dX2_told_92 (by decide) (fun _ => ?_) (fun c16 => absurd (by decide) c16)
        refine lv_iconst (v := 0) hx hb dX2_told_106 (by decide) ?_
        exact reI hx hb hr hlocks dX2_told_107 (by first | (simp only [pTold, b2, c5, c7, c9, c12, b15, decide_true, decide_false, Bool.not_true, Bool.not_false, Bool.and_true, Bool.true_and, Bool.and_false, Bool.false_and, Bool.or_true, Bool.true_or, Bool.or_false, Bool.false_or, Bool.and_self, Bool.or_self, if_true, if_false, ite_true, ite_false, Bool.false_eq_true, reduceIte, not_true_eq_false, not_false_eq_true, and_true, true_and, and_false, false_and, or_true, true_or, or_false, false_or, and_self, or_self, eq_self, decide_eq_true_eq, Bool.true_eq_false, reduceCtorEq, ne_eq]; done) | (simp [pTold, b2, c5, c7, c9, c12, b15]; done))
      · replace hr14 : r14 = 1 := by rw [hr14, b15]; rfl
        subst hr14
        refine lv_if_eq (tgt := 106) hx hb dX2_told_92 (by decide) (fun c17 => absurd c17 (by decide)) (fun _ => ?_)
        refine lv_aload_n hx hb dX2_told_95 rfl (lv_at hl 0 rfl) ?_
        refine va_get (D := D) (ci := 3) (v := .ref (oH ad 1)) (C := RX2) (T := TX2) (N := 10) hx hb hts iwX2 hown hK hP 0 rfl rfl 1 (by decide) (hts (.fieldLink RX2 16 "ObjectRows" "numbers" "LObjectRows$Row;") (by decide +kernel)) (fun _ h9 => h9) rfl dX2_told_96 ?_
        refine lv_iload_n hx hb dX2_told_99 rfl (lv_at hl 1 rfl) ?_
        refine rcI (As := [.int x]) (rest := []) ⟨hx, hb, hml, hown, hts⟩ (c_X1_at l D Y (oH ad 1) (oR t 1) x (hok 1 (by decide))) (cwV 1 hts gX2_told_X1_at rfl rfl rfl hdX1_at ⟨Nat.le_of_ble_eq_true rfl, Nat.le_of_ble_eq_true rfl⟩) (oWr1 hP) hK 0 2 rfl rfl rfl hl.1 rfl (Nat.le_of_ble_eq_true rfl) dX2_told_100 ⟨(Nat.zero_le _), (Nat.zero_le _)⟩ (fun r18 hr18 => ?_)
        obtain rfl : r18 = nu t x := hr18
        refine lv_goto (tgt := 107) hx hb dX2_told_103 (by decide) ?_
        exact reI hx hb hr hlocks dX2_told_107 (by first | (simp only [pTold, b2, c5, c7, c9, c12, b15, decide_true, decide_false, Bool.not_true, Bool.not_false, Bool.and_true, Bool.true_and, Bool.and_false, Bool.false_and, Bool.or_true, Bool.true_or, Bool.or_false, Bool.false_or, Bool.and_self, Bool.or_self, if_true, if_false, ite_true, ite_false, Bool.false_eq_true, reduceIte, not_true_eq_false, not_false_eq_true, and_true, true_and, and_false, false_and, or_true, true_or, or_false, false_or, and_self, or_self, eq_self, decide_eq_true_eq, Bool.true_eq_false, reduceCtorEq, ne_eq]; done) | (simp [pTold, b2, c5, c7, c9, c12, b15]; done))
    by_cases c19 : w = 4
    · refine lv_tableIn (off := 97) (tgt := 108) hx hb dX2_told_11 (by rw [c19]; decide) (by rw [c19]; decide) (by rw [c19]; decide) (by decide) ?_
      refine lv_aload_n hx hb dX2_told_108 rfl (lv_at hl 0 rfl) ?_
      refine va_get (D := D) (ci := 3) (v := .ref (oNow ad)) (C := RX2) (T := TX2) (N := 10) hx hb hts iwX2 hown hK hP 0 rfl rfl 6 (by decide) (hts (.fieldLink RX2 34 "ObjectRows" "now" "LObjectRows$Changing;") (by decide +kernel)) (fun _ h9 => h9) rfl dX2_told_109 ?_
      refine va_get (D := D) (ci := 1) (v := .ref (oH ad 8)) (C := RX0) (T := TX0) (N := 7) hx hb hts iwX0 hown hK hP 1 rfl rfl 2 (by decide) (hts (.fieldLink RX2 141 "ObjectRows$Changing" "capacities" "LObjectRows$Row;") (by decide +kernel)) (fun _ h9 => h9) rfl dX2_told_112 ?_
      refine lv_aload_n hx hb dX2_told_115 rfl (lv_at hl 0 rfl) ?_
      refine va_get (D := D) (ci := 3) (v := .ref (oH ad 2)) (C := RX2) (T := TX2) (N := 10) hx hb hts iwX2 hown hK hP 0 rfl rfl 2 (by decide) (hts (.fieldLink RX2 19 "ObjectRows" "owners" "LObjectRows$Row;") (by decide +kernel)) (fun _ h9 => h9) rfl dX2_told_116 ?_
      refine lv_iload_n hx hb dX2_told_119 rfl (lv_at hl 1 rfl) ?_
      refine rcI (As := [.int x]) (rest := [.ref (oH ad 8)]) ⟨hx, hb, hml, hown, hts⟩ (c_X1_at l D Y (oH ad 2) (oR t 2) x (hok 2 (by decide))) (cwV 1 hts gX2_told_X1_at rfl rfl rfl hdX1_at ⟨Nat.le_of_ble_eq_true rfl, Nat.le_of_ble_eq_true rfl⟩) (oWr2 hP) hK 0 2 rfl rfl rfl hl.1 rfl (Nat.le_of_ble_eq_true rfl) dX2_told_120 ⟨(Nat.zero_le _), (Nat.zero_le _)⟩ (fun r20 hr20 => ?_)
      obtain rfl : r20 = ow t x := hr20
      refine rcI (As := [.int (ow t x)]) (rest := []) ⟨hx, hb, hml, hown, hts⟩ (c_X1_at l D Y (oH ad 8) (oR t 8) (ow t x) (hok 8 (by decide))) (cwV 1 hts gX2_told_X1_at rfl rfl rfl hdX1_at ⟨Nat.le_of_ble_eq_true rfl, Nat.le_of_ble_eq_true rfl⟩) (oWr8 hP) hK 0 2 rfl rfl rfl hl.1 rfl (Nat.le_of_ble_eq_true rfl) dX2_told_123 ⟨(Nat.zero_le _), (Nat.zero_le _)⟩ (fun r21 hr21 => ?_)
      obtain rfl : r21 = rdC t (ow t x) := hr21
      exact reI hx hb hr hlocks dX2_told_126 (by first | (simp only [pTold, b2, c5, c7, c9, c12, c19, decide_true, decide_false, Bool.not_true, Bool.not_false, Bool.and_true, Bool.true_and, Bool.and_false, Bool.false_and, Bool.or_true, Bool.true_or, Bool.or_false, Bool.false_or, Bool.and_self, Bool.or_self, if_true, if_false, ite_true, ite_false, Bool.false_eq_true, reduceIte, not_true_eq_false, not_false_eq_true, and_true, true_and, and_false, false_and, or_true, true_or, or_false, false_or, and_self, or_self, eq_self, decide_eq_true_eq, Bool.true_eq_false, reduceCtorEq, ne_eq]; done) | (simp [pTold, b2, c5, c7, c9, c12, c19]; done))
    refine lv_tableD (tgt := 127) hx hb dX2_told_11 (tblD (ks := [0, 1, 2, 3, 4]) (by decide) (List.forall_mem_cons.mpr ⟨neI c5 (by decide), (List.forall_mem_cons.mpr ⟨neI c7 (by decide), (List.forall_mem_cons.mpr ⟨neI c9 (by decide), (List.forall_mem_cons.mpr ⟨neI c12 (by decide), (List.forall_mem_cons.mpr ⟨neI c19 (by decide), (fun _ h => absurd h List.not_mem_nil)⟩)⟩)⟩)⟩)⟩) (by decide)) (by decide) ?_
    refine lv_bipush (v := (-2)) hx hb dX2_told_127 (by decide) ?_
    exact reI hx hb hr hlocks dX2_told_129 (by first | (simp only [pTold, b2, c5, c7, c9, c12, c19, decide_true, decide_false, Bool.not_true, Bool.not_false, Bool.and_true, Bool.true_and, Bool.and_false, Bool.false_and, Bool.or_true, Bool.true_or, Bool.or_false, Bool.false_or, Bool.and_self, Bool.or_self, if_true, if_false, ite_true, ite_false, Bool.false_eq_true, reduceIte, not_true_eq_false, not_false_eq_true, and_true, true_and, and_false, false_and, or_true, true_or, or_false, false_or, and_self, or_self, eq_self, decide_eq_true_eq, Bool.true_eq_false, reduceCtorEq, ne_eq]; done) | (simp [pTold, b2, c5, c7, c9, c12, c19]; done))
theorem hdX2_told : yX2_told.cls = RX2 ∧ yX2_told.cls ≠ "java/lang/invoke/MethodHandle" ∧ yX2_told.cls ≠ "java/lang/invoke/VarHandle" ∧ (parseMethodDescriptor yX2_told.desc).map (fun d => d.parameters.length) = some 2 := by decide +kernel
set_option maxHeartbeats 4000000 in
set_option maxRecDepth 100000 in
theorem c_X2_same (l : Launch) (D : va_G) (Y : Nat → ClassId) (ad : OA) (t : OS) (a : Int32) (b : Int32) (hok : oOK t) : Met l yX2_same wsX2_same ({ frames := 6, cells := 0, slots := 0, locals := 129 }) (rdPc D Y [.ref (oO ad), .int a, .int b] (oW Y ad t)) (vp_Si (fun ans => ans = bI (pSame t a b))) 0 0 (fun _ => False) := by
  refine rdOf (cc := cX2_same) (maxL := 3) (ret := (some .boolean)) (own := RX2) (by decide) rfl rfl (Nat.le_of_ble_eq_true rfl) ?_
  intro p e s m below meth c ls hx hb hr hts hown hml hlocks hP hK hl
  have hl : lv_has ls 3 [(0, .ref (oO ad)), (1, .int a), (2, .int b)] := hl
  refine lv_aload_n hx hb dX2_same_0 rfl (lv_at hl 0 rfl) ?_
  refine lv_iload_n hx hb dX2_same_1 rfl (lv_at hl 1 rfl) ?_
  refine rcI (As := [.int a]) (rest := []) ⟨hx, hb, hml, hown, hts⟩ (c_X2_known l D Y ad t a hok) (cwV 1 hts gX2_same_X2_known rfl rfl rfl hdX2_known ⟨Nat.le_of_ble_eq_true rfl, Nat.le_of_ble_eq_true rfl⟩) hP hK 0 3 rfl rfl rfl hl.1 rfl (Nat.le_of_ble_eq_true rfl) dX2_same_2 ⟨(Nat.zero_le _), (Nat.zero_le _)⟩ (fun r1 hr1 => ?_)
  replace hr1 : r1 = bI (pKnown t a) := hr1
  cases b2 : pKnown t a
  · replace hr1 : r1 = 0 := by rw [hr1, b2]; rfl
    subst hr1
    refine lv_if_eq (tgt := 29) hx hb dX2_same_5 (by decide) (fun _ => ?_) (fun c3 => absurd (by decide) c3)
    refine lv_iconst (v := 0) hx hb dX2_same_29 (by decide) ?_
    exact reZ hx hb hr hlocks dX2_same_30 (by first | exact Or.inl rfl | exact Or.inr rfl | exact bI_01 _ | (rename_i h9; rw [h9]; exact bI_01 _) | (subst_vars; exact bI_01 _)) (by first | (simp only [pSame, bI, b2, decide_true, decide_false, Bool.not_true, Bool.not_false, Bool.and_true, Bool.true_and, Bool.and_false, Bool.false_and, Bool.or_true, Bool.true_or, Bool.or_false, Bool.false_or, Bool.and_self, Bool.or_self, if_true, if_false, ite_true, ite_false, Bool.false_eq_true, reduceIte, not_true_eq_false, not_false_eq_true, and_true, true_and, and_false, false_and, or_true, true_or, or_false, false_or, and_self, or_self, eq_self, decide_eq_true_eq, Bool.true_eq_false, reduceCtorEq, ne_eq]; done) | (simp [pSame, bI, b2]; done))
  · replace hr1 : r1 = 1 := by rw [hr1, b2]; rfl
    subst hr1
    refine lv_if_eq (tgt := 29) hx hb dX2_same_5 (by decide) (fun c4 => absurd c4 (by decide)) (fun _ => ?_)
    refine lv_aload_n hx hb dX2_same_8 rfl (lv_at hl 0 rfl) ?_
    refine lv_iload_n hx hb dX2_same_9 rfl (lv_at hl 2 rfl) ?_
    refine rcI (As := [.int b]) (rest := []) ⟨hx, hb, hml, hown, hts⟩ (c_X2_known l D Y ad t b hok) (cwV 1 hts gX2_same_X2_known rfl rfl rfl hdX2_known ⟨Nat.le_of_ble_eq_true rfl, Nat.le_of_ble_eq_true rfl⟩) hP hK 0 3 rfl rfl rfl hl.1 rfl (Nat.le_of_ble_eq_true rfl) dX2_same_10 ⟨(Nat.zero_le _), (Nat.zero_le _)⟩ (fun r5 hr5 => ?_)
    replace hr5 : r5 = bI (pKnown t b) := hr5
    cases b6 : pKnown t b
    · replace hr5 : r5 = 0 := by rw [hr5, b6]; rfl
      subst hr5
      refine lv_if_eq (tgt := 29) hx hb dX2_same_13 (by decide) (fun _ => ?_) (fun c7 => absurd (by decide) c7)
      refine lv_iconst (v := 0) hx hb dX2_same_29 (by decide) ?_
      exact reZ hx hb hr hlocks dX2_same_30 (by first | exact Or.inl rfl | exact Or.inr rfl | exact bI_01 _ | (rename_i h9; rw [h9]; exact bI_01 _) | (subst_vars; exact bI_01 _)) (by first | (simp only [pSame, bI, b2, b6, decide_true, decide_false, Bool.not_true, Bool.not_false, Bool.and_true, Bool.true_and, Bool.and_false, Bool.false_and, Bool.or_true, Bool.true_or, Bool.or_false, Bool.false_or, Bool.and_self, Bool.or_self, if_true, if_false, ite_true, ite_false, Bool.false_eq_true, reduceIte, not_true_eq_false, not_false_eq_true, and_true, true_and, and_false, false_and, or_true, true_or, or_false, false_or, and_self, or_self, eq_self, decide_eq_true_eq, Bool.true_eq_false, reduceCtorEq, ne_eq]; done) | (simp [pSame, bI, b2, b6]; done))
    · replace hr5 : r5 = 1 := by rw [hr5, b6]; rfl
      subst hr5
      refine lv_if_eq (tgt := 29) hx hb dX2_same_13 (by decide) (fun c8 => absurd c8 (by decide)) (fun _ => ?_)
      refine lv_aload_n hx hb dX2_same_16 rfl (lv_at hl 0 rfl) ?_
      refine lv_iload_n hx hb dX2_same_17 rfl (lv_at hl 1 rfl) ?_
      refine lv_iload_n hx hb dX2_same_18 rfl (lv_at hl 2 rfl) ?_
      refine rcI (As := [.int a, .int b]) (rest := []) ⟨hx, hb, hml, hown, hts⟩ (c_X2_alike l D Y ad t a b hok) (cwV 2 hts gX2_same_X2_alike rfl rfl rfl hdX2_alike ⟨Nat.le_of_ble_eq_true rfl, Nat.le_of_ble_eq_true rfl⟩) hP hK 0 3 rfl rfl rfl hl.1 rfl (Nat.le_of_ble_eq_true rfl) dX2_same_19 ⟨(Nat.zero_le _), (Nat.zero_le _)⟩ (fun r9 hr9 => ?_)
      replace hr9 : r9 = bI (pAlike t a b) := hr9
      cases b10 : pAlike t a b
      · replace hr9 : r9 = 0 := by rw [hr9, b10]; rfl
        subst hr9
        refine lv_if_eq (tgt := 29) hx hb dX2_same_22 (by decide) (fun _ => ?_) (fun c11 => absurd (by decide) c11)
        refine lv_iconst (v := 0) hx hb dX2_same_29 (by decide) ?_
        exact reZ hx hb hr hlocks dX2_same_30 (by first | exact Or.inl rfl | exact Or.inr rfl | exact bI_01 _ | (rename_i h9; rw [h9]; exact bI_01 _) | (subst_vars; exact bI_01 _)) (by first | (simp only [pSame, bI, b2, b6, b10, decide_true, decide_false, Bool.not_true, Bool.not_false, Bool.and_true, Bool.true_and, Bool.and_false, Bool.false_and, Bool.or_true, Bool.true_or, Bool.or_false, Bool.false_or, Bool.and_self, Bool.or_self, if_true, if_false, ite_true, ite_false, Bool.false_eq_true, reduceIte, not_true_eq_false, not_false_eq_true, and_true, true_and, and_false, false_and, or_true, true_or, or_false, false_or, and_self, or_self, eq_self, decide_eq_true_eq, Bool.true_eq_false, reduceCtorEq, ne_eq]; done) | (simp [pSame, bI, b2, b6, b10]; done))
      · replace hr9 : r9 = 1 := by rw [hr9, b10]; rfl
        subst hr9
        refine lv_if_eq (tgt := 29) hx hb dX2_same_22 (by decide) (fun c12 => absurd c12 (by decide)) (fun _ => ?_)
        refine lv_iconst (v := 1) hx hb dX2_same_25 (by decide) ?_
        refine lv_goto (tgt := 30) hx hb dX2_same_26 (by decide) ?_
        exact reZ hx hb hr hlocks dX2_same_30 (by first | exact Or.inl rfl | exact Or.inr rfl | exact bI_01 _ | (rename_i h9; rw [h9]; exact bI_01 _) | (subst_vars; exact bI_01 _)) (by first | (simp only [pSame, bI, b2, b6, b10, decide_true, decide_false, Bool.not_true, Bool.not_false, Bool.and_true, Bool.true_and, Bool.and_false, Bool.false_and, Bool.or_true, Bool.true_or, Bool.or_false, Bool.false_or, Bool.and_self, Bool.or_self, if_true, if_false, ite_true, ite_false, Bool.false_eq_true, reduceIte, not_true_eq_false, not_false_eq_true, and_true, true_and, and_false, false_and, or_true, true_or, or_false, false_or, and_self, or_self, eq_self, decide_eq_true_eq, Bool.true_eq_false, reduceCtorEq, ne_eq]; done) | (simp [pSame, bI, b2, b6, b10]; done))
theorem hdX2_same : yX2_same.cls = RX2 ∧ yX2_same.cls ≠ "java/lang/invoke/MethodHandle" ∧ yX2_same.cls ≠ "java/lang/invoke/VarHandle" ∧ (parseMethodDescriptor yX2_same.desc).map (fun d => d.parameters.length) = some 2 := by decide +kernel
set_option maxHeartbeats 4000000 in
set_option maxRecDepth 100000 in
theorem c_X2_compare (l : Launch) (D : va_G) (Y : Nat → ClassId) (ad : OA) (t : OS) (a : Int32) (b : Int32) (hok : oOK t) : Met l yX2_compare wsX2_compare ({ frames := 4, cells := 0, slots := 0, locals := 84 }) (rdPc D Y [.ref (oO ad), .int a, .int b] (oW Y ad t)) (vp_Si (fun ans => ans = pCompare t a b)) 0 0 (fun _ => False) := by
  refine rdOf (cc := cX2_compare) (maxL := 3) (ret := (some .int)) (own := RX2) (by decide) rfl rfl (Nat.le_of_ble_eq_true rfl) ?_
  intro p e s m below meth c ls hx hb hr hts hown hml hlocks hP hK hl
  have iwX2 : ∀ w ∈ u_ws RX2 TX2 10, w ∈ wsX2_compare := fun _ h => List.mem_cons_of_mem _ (List.mem_append_left _ (List.mem_append_left _ (List.mem_append_right _ h)))
  have hl : lv_has ls 3 [(0, .ref (oO ad)), (1, .int a), (2, .int b)] := hl
  refine lv_aload_n hx hb dX2_compare_0 rfl (lv_at hl 0 rfl) ?_
  refine lv_iload_n hx hb dX2_compare_1 rfl (lv_at hl 1 rfl) ?_
  refine rcI (As := [.int a]) (rest := []) ⟨hx, hb, hml, hown, hts⟩ (c_X2_known l D Y ad t a hok) (cwV 1 hts gX2_compare_X2_known rfl rfl rfl hdX2_known ⟨Nat.le_of_ble_eq_true rfl, Nat.le_of_ble_eq_true rfl⟩) hP hK 0 3 rfl rfl rfl hl.1 rfl (Nat.le_of_ble_eq_true rfl) dX2_compare_2 ⟨(Nat.zero_le _), (Nat.zero_le _)⟩ (fun r1 hr1 => ?_)
  replace hr1 : r1 = bI (pKnown t a) := hr1
  cases b2 : pKnown t a
  · replace hr1 : r1 = 0 := by rw [hr1, b2]; rfl
    subst hr1
    refine lv_if_eq (tgt := 16) hx hb dX2_compare_5 (by decide) (fun _ => ?_) (fun c3 => absurd (by decide) c3)
    refine lv_iconst (v := (-1)) hx hb dX2_compare_16 (by decide) ?_
    exact reI hx hb hr hlocks dX2_compare_17 (by first | (simp only [pCompare, b2, decide_true, decide_false, Bool.not_true, Bool.not_false, Bool.and_true, Bool.true_and, Bool.and_false, Bool.false_and, Bool.or_true, Bool.true_or, Bool.or_false, Bool.false_or, Bool.and_self, Bool.or_self, if_true, if_false, ite_true, ite_false, Bool.false_eq_true, reduceIte, not_true_eq_false, not_false_eq_true, and_true, true_and, and_false, false_and, or_true, true_or, or_false, false_or, and_self, or_self, eq_self, decide_eq_true_eq, Bool.true_eq_false, reduceCtorEq, ne_eq]; done) | (simp [pCompare, b2]; done))
  · replace hr1 : r1 = 1 := by rw [hr1, b2]; rfl
    subst hr1
    refine lv_if_eq (tgt := 16) hx hb dX2_compare_5 (by decide) (fun c4 => absurd c4 (by decide)) (fun _ => ?_)
    refine lv_aload_n hx hb dX2_compare_8 rfl (lv_at hl 0 rfl) ?_
    refine lv_iload_n hx hb dX2_compare_9 rfl (lv_at hl 2 rfl) ?_
    refine rcI (As := [.int b]) (rest := []) ⟨hx, hb, hml, hown, hts⟩ (c_X2_known l D Y ad t b hok) (cwV 1 hts gX2_compare_X2_known rfl rfl rfl hdX2_known ⟨Nat.le_of_ble_eq_true rfl, Nat.le_of_ble_eq_true rfl⟩) hP hK 0 3 rfl rfl rfl hl.1 rfl (Nat.le_of_ble_eq_true rfl) dX2_compare_10 ⟨(Nat.zero_le _), (Nat.zero_le _)⟩ (fun r5 hr5 => ?_)
    replace hr5 : r5 = bI (pKnown t b) := hr5
    cases b6 : pKnown t b
    · replace hr5 : r5 = 0 := by rw [hr5, b6]; rfl
      subst hr5
      refine lv_if_ne (tgt := 18) hx hb dX2_compare_13 (by decide) (fun c7 => absurd (by decide) c7) (fun _ => ?_)
      refine lv_iconst (v := (-1)) hx hb dX2_compare_16 (by decide) ?_
      exact reI hx hb hr hlocks dX2_compare_17 (by first | (simp only [pCompare, b2, b6, decide_true, decide_false, Bool.not_true, Bool.not_false, Bool.and_true, Bool.true_and, Bool.and_false, Bool.false_and, Bool.or_true, Bool.true_or, Bool.or_false, Bool.false_or, Bool.and_self, Bool.or_self, if_true, if_false, ite_true, ite_false, Bool.false_eq_true, reduceIte, not_true_eq_false, not_false_eq_true, and_true, true_and, and_false, false_and, or_true, true_or, or_false, false_or, and_self, or_self, eq_self, decide_eq_true_eq, Bool.true_eq_false, reduceCtorEq, ne_eq]; done) | (simp [pCompare, b2, b6]; done))
    · replace hr5 : r5 = 1 := by rw [hr5, b6]; rfl
      subst hr5
      refine lv_if_ne (tgt := 18) hx hb dX2_compare_13 (by decide) (fun _ => ?_) (fun c8 => absurd c8 (by decide))
      refine lv_aload_n hx hb dX2_compare_18 rfl (lv_at hl 0 rfl) ?_
      refine va_get (D := D) (ci := 3) (v := .ref (oH ad 0)) (C := RX2) (T := TX2) (N := 10) hx hb hts iwX2 hown hK hP 0 rfl rfl 0 (by decide) (hts (.fieldLink RX2 12 "ObjectRows" "kinds" "LObjectRows$Row;") (by decide +kernel)) (fun _ h9 => h9) rfl dX2_compare_19 ?_
      refine lv_iload_n hx hb dX2_compare_22 rfl (lv_at hl 1 rfl) ?_
      refine rcI (As := [.int a]) (rest := []) ⟨hx, hb, hml, hown, hts⟩ (c_X1_at l D Y (oH ad 0) (oR t 0) a (hok 0 (by decide))) (cwV 1 hts gX2_compare_X1_at rfl rfl rfl hdX1_at ⟨Nat.le_of_ble_eq_true rfl, Nat.le_of_ble_eq_true rfl⟩) (oWr0 hP) hK 0 2 rfl rfl rfl hl.1 rfl (Nat.le_of_ble_eq_true rfl) dX2_compare_23 ⟨(Nat.zero_le _), (Nat.zero_le _)⟩ (fun r9 hr9 => ?_)
      obtain rfl : r9 = kd t a := hr9
      refine lv_iconst (v := 1) hx hb dX2_compare_26 (by decide) ?_
      refine lv_icmp_ne (tgt := 62) hx hb dX2_compare_27 (by decide) (fun c10 => ?_) (fun c10 => ?_)
      · skip
        refine lv_aload_n hx hb dX2_compare_62 rfl (lv_at hl 0 rfl) ?_
        refine lv_iload_n hx hb dX2_compare_63 rfl (lv_at hl 1 rfl) ?_
        refine rcI (As := [.int a]) (rest := []) ⟨hx, hb, hml, hown, hts⟩ (c_X2_readableString l D Y ad t a hok) (cwV 1 hts gX2_compare_X2_readableString rfl rfl rfl hdX2_readableString ⟨Nat.le_of_ble_eq_true rfl, Nat.le_of_ble_eq_true rfl⟩) hP hK 0 3 rfl rfl rfl hl.1 rfl (Nat.le_of_ble_eq_true rfl) dX2_compare_64 ⟨(Nat.zero_le _), (Nat.zero_le _)⟩ (fun r11 hr11 => ?_)
        replace hr11 : r11 = bI (pRStr t a) := hr11
        cases b12 : pRStr t a
        · replace hr11 : r11 = 0 := by rw [hr11, b12]; rfl
          subst hr11
          refine lv_if_eq (tgt := 85) hx hb dX2_compare_67 (by decide) (fun _ => ?_) (fun c13 => absurd (by decide) c13)
          refine lv_bipush (v := (-3)) hx hb dX2_compare_85 (by decide) ?_
          exact reI hx hb hr hlocks dX2_compare_87 (by first | (simp only [pCompare, b2, b6, c10, b12, decide_true, decide_false, Bool.not_true, Bool.not_false, Bool.and_true, Bool.true_and, Bool.and_false, Bool.false_and, Bool.or_true, Bool.true_or, Bool.or_false, Bool.false_or, Bool.and_self, Bool.or_self, if_true, if_false, ite_true, ite_false, Bool.false_eq_true, reduceIte, not_true_eq_false, not_false_eq_true, and_true, true_and, and_false, false_and, or_true, true_or, or_false, false_or, and_self, or_self, eq_self, decide_eq_true_eq, Bool.true_eq_false, reduceCtorEq, ne_eq]; done) | (simp [pCompare, b2, b6, c10, b12]; done))
        · replace hr11 : r11 = 1 := by rw [hr11, b12]; rfl
          subst hr11
          refine lv_if_eq (tgt := 85) hx hb dX2_compare_67 (by decide) (fun c14 => absurd c14 (by decide)) (fun _ => ?_)
          refine lv_aload_n hx hb dX2_compare_70 rfl (lv_at hl 0 rfl) ?_
          refine lv_iload_n hx hb dX2_compare_71 rfl (lv_at hl 2 rfl) ?_
          refine rcI (As := [.int b]) (rest := []) ⟨hx, hb, hml, hown, hts⟩ (c_X2_readableString l D Y ad t b hok) (cwV 1 hts gX2_compare_X2_readableString rfl rfl rfl hdX2_readableString ⟨Nat.le_of_ble_eq_true rfl, Nat.le_of_ble_eq_true rfl⟩) hP hK 0 3 rfl rfl rfl hl.1 rfl (Nat.le_of_ble_eq_true rfl) dX2_compare_72 ⟨(Nat.zero_le _), (Nat.zero_le _)⟩ (fun r15 hr15 => ?_)
          replace hr15 : r15 = bI (pRStr t b) := hr15
          cases b16 : pRStr t b
          · replace hr15 : r15 = 0 := by rw [hr15, b16]; rfl
            subst hr15
            refine lv_if_eq (tgt := 85) hx hb dX2_compare_75 (by decide) (fun _ => ?_) (fun c17 => absurd (by decide) c17)
            refine lv_bipush (v := (-3)) hx hb dX2_compare_85 (by decide) ?_
            exact reI hx hb hr hlocks dX2_compare_87 (by first | (simp only [pCompare, b2, b6, c10, b12, b16, decide_true, decide_false, Bool.not_true, Bool.not_false, Bool.and_true, Bool.true_and, Bool.and_false, Bool.false_and, Bool.or_true, Bool.true_or, Bool.or_false, Bool.false_or, Bool.and_self, Bool.or_self, if_true, if_false, ite_true, ite_false, Bool.false_eq_true, reduceIte, not_true_eq_false, not_false_eq_true, and_true, true_and, and_false, false_and, or_true, true_or, or_false, false_or, and_self, or_self, eq_self, decide_eq_true_eq, Bool.true_eq_false, reduceCtorEq, ne_eq]; done) | (simp [pCompare, b2, b6, c10, b12, b16]; done))
          · replace hr15 : r15 = 1 := by rw [hr15, b16]; rfl
            subst hr15
            refine lv_if_eq (tgt := 85) hx hb dX2_compare_75 (by decide) (fun c18 => absurd c18 (by decide)) (fun _ => ?_)
            refine lv_aload_n hx hb dX2_compare_78 rfl (lv_at hl 0 rfl) ?_
            refine lv_iload_n hx hb dX2_compare_79 rfl (lv_at hl 1 rfl) ?_
            refine lv_iload_n hx hb dX2_compare_80 rfl (lv_at hl 2 rfl) ?_
            refine rcI (As := [.int a, .int b]) (rest := []) ⟨hx, hb, hml, hown, hts⟩ (c_X2_orderOfBytes l D Y ad t a b hok) (cwV 2 hts gX2_compare_X2_orderOfBytes rfl rfl rfl hdX2_orderOfBytes ⟨Nat.le_of_ble_eq_true rfl, Nat.le_of_ble_eq_true rfl⟩) hP hK 0 3 rfl rfl rfl hl.1 rfl (Nat.le_of_ble_eq_true rfl) dX2_compare_81 ⟨(Nat.zero_le _), (Nat.zero_le _)⟩ (fun r19 hr19 => ?_)
            obtain rfl : r19 = pOrdB t a b := hr19
            exact reI hx hb hr hlocks dX2_compare_84 (by first | (simp only [pCompare, b2, b6, c10, b12, b16, decide_true, decide_false, Bool.not_true, Bool.not_false, Bool.and_true, Bool.true_and, Bool.and_false, Bool.false_and, Bool.or_true, Bool.true_or, Bool.or_false, Bool.false_or, Bool.and_self, Bool.or_self, if_true, if_false, ite_true, ite_false, Bool.false_eq_true, reduceIte, not_true_eq_false, not_false_eq_true, and_true, true_and, and_false, false_and, or_true, true_or, or_false, false_or, and_self, or_self, eq_self, decide_eq_true_eq, Bool.true_eq_false, reduceCtorEq, ne_eq]; done) | (simp [pCompare, b2, b6, c10, b12, b16]; done))
      · skip
        refine lv_aload_n hx hb dX2_compare_30 rfl (lv_at hl 0 rfl) ?_
        refine va_get (D := D) (ci := 3) (v := .ref (oH ad 0)) (C := RX2) (T := TX2) (N := 10) hx hb hts iwX2 hown hK hP 0 rfl rfl 0 (by decide) (hts (.fieldLink RX2 12 "ObjectRows" "kinds" "LObjectRows$Row;") (by decide +kernel)) (fun _ h9 => h9) rfl dX2_compare_31 ?_
        refine lv_iload_n hx hb dX2_compare_34 rfl (lv_at hl 2 rfl) ?_
        refine rcI (As := [.int b]) (rest := []) ⟨hx, hb, hml, hown, hts⟩ (c_X1_at l D Y (oH ad 0) (oR t 0) b (hok 0 (by decide))) (cwV 1 hts gX2_compare_X1_at rfl rfl rfl hdX1_at ⟨Nat.le_of_ble_eq_true rfl, Nat.le_of_ble_eq_true rfl⟩) (oWr0 hP) hK 0 2 rfl rfl rfl hl.1 rfl (Nat.le_of_ble_eq_true rfl) dX2_compare_35 ⟨(Nat.zero_le _), (Nat.zero_le _)⟩ (fun r20 hr20 => ?_)
        obtain rfl : r20 = kd t b := hr20
        refine lv_iconst (v := 1) hx hb dX2_compare_38 (by decide) ?_
        refine lv_icmp_ne (tgt := 62) hx hb dX2_compare_39 (by decide) (fun c21 => ?_) (fun c21 => ?_)
        · skip
          refine lv_aload_n hx hb dX2_compare_62 rfl (lv_at hl 0 rfl) ?_
          refine lv_iload_n hx hb dX2_compare_63 rfl (lv_at hl 1 rfl) ?_
          refine rcI (As := [.int a]) (rest := []) ⟨hx, hb, hml, hown, hts⟩ (c_X2_readableString l D Y ad t a hok) (cwV 1 hts gX2_compare_X2_readableString rfl rfl rfl hdX2_readableString ⟨Nat.le_of_ble_eq_true rfl, Nat.le_of_ble_eq_true rfl⟩) hP hK 0 3 rfl rfl rfl hl.1 rfl (Nat.le_of_ble_eq_true rfl) dX2_compare_64 ⟨(Nat.zero_le _), (Nat.zero_le _)⟩ (fun r22 hr22 => ?_)
          replace hr22 : r22 = bI (pRStr t a) := hr22
          cases b23 : pRStr t a
          · replace hr22 : r22 = 0 := by rw [hr22, b23]; rfl
            subst hr22
            refine lv_if_eq (tgt := 85) hx hb dX2_compare_67 (by decide) (fun _ => ?_) (fun c24 => absurd (by decide) c24)
            refine lv_bipush (v := (-3)) hx hb dX2_compare_85 (by decide) ?_
            exact reI hx hb hr hlocks dX2_compare_87 (by first | (simp only [pCompare, b2, b6, c10, c21, b23, decide_true, decide_false, Bool.not_true, Bool.not_false, Bool.and_true, Bool.true_and, Bool.and_false, Bool.false_and, Bool.or_true, Bool.true_or, Bool.or_false, Bool.false_or, Bool.and_self, Bool.or_self, if_true, if_false, ite_true, ite_false, Bool.false_eq_true, reduceIte, not_true_eq_false, not_false_eq_true, and_true, true_and, and_false, false_and, or_true, true_or, or_false, false_or, and_self, or_self, eq_self, decide_eq_true_eq, Bool.true_eq_false, reduceCtorEq, ne_eq]; done) | (simp [pCompare, b2, b6, c10, c21, b23]; done) | (simp only [pCompare, b2, b6, eq_true c10, c21, b23, decide_true, decide_false, Bool.not_true, Bool.not_false, Bool.and_true, Bool.true_and, Bool.and_false, Bool.false_and, Bool.or_true, Bool.true_or, Bool.or_false, Bool.false_or, Bool.and_self, Bool.or_self, if_true, if_false, ite_true, ite_false, Bool.false_eq_true, reduceIte, not_true_eq_false, not_false_eq_true, and_true, true_and, and_false, false_and, or_true, true_or, or_false, false_or, and_self, or_self, eq_self, decide_eq_true_eq, Bool.true_eq_false, reduceCtorEq, ne_eq]; done) | (simp [pCompare, b2, b6, eq_true c10, c21, b23]; done))
          · replace hr22 : r22 = 1 := by rw [hr22, b23]; rfl
            subst hr22
            refine lv_if_eq (tgt := 85) hx hb dX2_compare_67 (by decide) (fun c25 => absurd c25 (by decide)) (fun _ => ?_)
            refine lv_aload_n hx hb dX2_compare_70 rfl (lv_at hl 0 rfl) ?_
            refine lv_iload_n hx hb dX2_compare_71 rfl (lv_at hl 2 rfl) ?_
            refine rcI (As := [.int b]) (rest := []) ⟨hx, hb, hml, hown, hts⟩ (c_X2_readableString l D Y ad t b hok) (cwV 1 hts gX2_compare_X2_readableString rfl rfl rfl hdX2_readableString ⟨Nat.le_of_ble_eq_true rfl, Nat.le_of_ble_eq_true rfl⟩) hP hK 0 3 rfl rfl rfl hl.1 rfl (Nat.le_of_ble_eq_true rfl) dX2_compare_72 ⟨(Nat.zero_le _), (Nat.zero_le _)⟩ (fun r26 hr26 => ?_)
            replace hr26 : r26 = bI (pRStr t b) := hr26
            cases b27 : pRStr t b
            · replace hr26 : r26 = 0 := by rw [hr26, b27]; rfl
              subst hr26
              refine lv_if_eq (tgt := 85) hx hb dX2_compare_75 (by decide) (fun _ => ?_) (fun c28 => absurd (by decide) c28)
              refine lv_bipush (v := (-3)) hx hb dX2_compare_85 (by decide) ?_
              exact reI hx hb hr hlocks dX2_compare_87 (by first | (simp only [pCompare, b2, b6, c10, c21, b23, b27, decide_true, decide_false, Bool.not_true, Bool.not_false, Bool.and_true, Bool.true_and, Bool.and_false, Bool.false_and, Bool.or_true, Bool.true_or, Bool.or_false, Bool.false_or, Bool.and_self, Bool.or_self, if_true, if_false, ite_true, ite_false, Bool.false_eq_true, reduceIte, not_true_eq_false, not_false_eq_true, and_true, true_and, and_false, false_and, or_true, true_or, or_false, false_or, and_self, or_self, eq_self, decide_eq_true_eq, Bool.true_eq_false, reduceCtorEq, ne_eq]; done) | (simp [pCompare, b2, b6, c10, c21, b23, b27]; done) | (simp only [pCompare, b2, b6, eq_true c10, c21, b23, b27, decide_true, decide_false, Bool.not_true, Bool.not_false, Bool.and_true, Bool.true_and, Bool.and_false, Bool.false_and, Bool.or_true, Bool.true_or, Bool.or_false, Bool.false_or, Bool.and_self, Bool.or_self, if_true, if_false, ite_true, ite_false, Bool.false_eq_true, reduceIte, not_true_eq_false, not_false_eq_true, and_true, true_and, and_false, false_and, or_true, true_or, or_false, false_or, and_self, or_self, eq_self, decide_eq_true_eq, Bool.true_eq_false, reduceCtorEq, ne_eq]; done) | (simp [pCompare, b2, b6, eq_true c10, c21, b23, b27]; done))
            · replace hr26 : r26 = 1 := by rw [hr26, b27]; rfl
              subst hr26
              refine lv_if_eq (tgt := 85) hx hb dX2_compare_75 (by decide) (fun c29 => absurd c29 (by decide)) (fun _ => ?_)
              refine lv_aload_n hx hb dX2_compare_78 rfl (lv_at hl 0 rfl) ?_
              refine lv_iload_n hx hb dX2_compare_79 rfl (lv_at hl 1 rfl) ?_
              refine lv_iload_n hx hb dX2_compare_80 rfl (lv_at hl 2 rfl) ?_
              refine rcI (As := [.int a, .int b]) (rest := []) ⟨hx, hb, hml, hown, hts⟩ (c_X2_orderOfBytes l D Y ad t a b hok) (cwV 2 hts gX2_compare_X2_orderOfBytes rfl rfl rfl hdX2_orderOfBytes ⟨Nat.le_of_ble_eq_true rfl, Nat.le_of_ble_eq_true rfl⟩) hP hK 0 3 rfl rfl rfl hl.1 rfl (Nat.le_of_ble_eq_true rfl) dX2_compare_81 ⟨(Nat.zero_le _), (Nat.zero_le _)⟩ (fun r30 hr30 => ?_)
              obtain rfl : r30 = pOrdB t a b := hr30
              exact reI hx hb hr hlocks dX2_compare_84 (by first | (simp only [pCompare, b2, b6, c10, c21, b23, b27, decide_true, decide_false, Bool.not_true, Bool.not_false, Bool.and_true, Bool.true_and, Bool.and_false, Bool.false_and, Bool.or_true, Bool.true_or, Bool.or_false, Bool.false_or, Bool.and_self, Bool.or_self, if_true, if_false, ite_true, ite_false, Bool.false_eq_true, reduceIte, not_true_eq_false, not_false_eq_true, and_true, true_and, and_false, false_and, or_true, true_or, or_false, false_or, and_self, or_self, eq_self, decide_eq_true_eq, Bool.true_eq_false, reduceCtorEq, ne_eq]; done) | (simp [pCompare, b2, b6, c10, c21, b23, b27]; done) | (simp only [pCompare, b2, b6, eq_true c10, c21, b23, b27, decide_true, decide_false, Bool.not_true, Bool.not_false, Bool.and_true, Bool.true_and, Bool.and_false, Bool.false_and, Bool.or_true, Bool.true_or, Bool.or_false, Bool.false_or, Bool.and_self, Bool.or_self, if_true, if_false, ite_true, ite_false, Bool.false_eq_true, reduceIte, not_true_eq_false, not_false_eq_true, and_true, true_and, and_false, false_and, or_true, true_or, or_false, false_or, and_self, or_self, eq_self, decide_eq_true_eq, Bool.true_eq_false, reduceCtorEq, ne_eq]; done) | (simp [pCompare, b2, b6, eq_true c10, c21, b23, b27]; done))
        · skip
          refine lv_aload_n hx hb dX2_compare_42 rfl (lv_at hl 0 rfl) ?_
          refine va_get (D := D) (ci := 3) (v := .ref (oH ad 1)) (C := RX2) (T := TX2) (N := 10) hx hb hts iwX2 hown hK hP 0 rfl rfl 1 (by decide) (hts (.fieldLink RX2 16 "ObjectRows" "numbers" "LObjectRows$Row;") (by decide +kernel)) (fun _ h9 => h9) rfl dX2_compare_43 ?_
          refine lv_iload_n hx hb dX2_compare_46 rfl (lv_at hl 1 rfl) ?_
          refine rcI (As := [.int a]) (rest := []) ⟨hx, hb, hml, hown, hts⟩ (c_X1_at l D Y (oH ad 1) (oR t 1) a (hok 1 (by decide))) (cwV 1 hts gX2_compare_X1_at rfl rfl rfl hdX1_at ⟨Nat.le_of_ble_eq_true rfl, Nat.le_of_ble_eq_true rfl⟩) (oWr1 hP) hK 0 2 rfl rfl rfl hl.1 rfl (Nat.le_of_ble_eq_true rfl) dX2_compare_47 ⟨(Nat.zero_le _), (Nat.zero_le _)⟩ (fun r31 hr31 => ?_)
          obtain rfl : r31 = nu t a := hr31
          refine lv_aload_n hx hb dX2_compare_50 rfl (lv_at hl 0 rfl) ?_
          refine va_get (D := D) (ci := 3) (v := .ref (oH ad 1)) (C := RX2) (T := TX2) (N := 10) hx hb hts iwX2 hown hK hP 0 rfl rfl 1 (by decide) (hts (.fieldLink RX2 16 "ObjectRows" "numbers" "LObjectRows$Row;") (by decide +kernel)) (fun _ h9 => h9) rfl dX2_compare_51 ?_
          refine lv_iload_n hx hb dX2_compare_54 rfl (lv_at hl 2 rfl) ?_
          refine rcI (As := [.int b]) (rest := [.int (nu t a)]) ⟨hx, hb, hml, hown, hts⟩ (c_X1_at l D Y (oH ad 1) (oR t 1) b (hok 1 (by decide))) (cwV 1 hts gX2_compare_X1_at rfl rfl rfl hdX1_at ⟨Nat.le_of_ble_eq_true rfl, Nat.le_of_ble_eq_true rfl⟩) (oWr1 hP) hK 0 2 rfl rfl rfl hl.1 rfl (Nat.le_of_ble_eq_true rfl) dX2_compare_55 ⟨(Nat.zero_le _), (Nat.zero_le _)⟩ (fun r32 hr32 => ?_)
          obtain rfl : r32 = nu t b := hr32
          refine scI (As := [.int (nu t a), .int (nu t b)]) (rest := []) ⟨hx, hb, hml, hown, hts⟩ (c_X2_order l (nu t a) (nu t b)) (va_cwS 2 hts gX2_compare_X2_order rfl rfl rfl hdX2_order ⟨Nat.le_of_ble_eq_true rfl, Nat.le_of_ble_eq_true rfl⟩) rfl hl.1 rfl (Nat.le_of_ble_eq_true rfl) dX2_compare_58 ⟨(Nat.zero_le _), (Nat.zero_le _)⟩ (fun r33 hr33 => ?_)
          obtain rfl : r33 = pOrder (nu t a) (nu t b) := hr33
          exact reI hx hb hr hlocks dX2_compare_61 (by first | (simp only [pCompare, b2, b6, c10, c21, decide_true, decide_false, Bool.not_true, Bool.not_false, Bool.and_true, Bool.true_and, Bool.and_false, Bool.false_and, Bool.or_true, Bool.true_or, Bool.or_false, Bool.false_or, Bool.and_self, Bool.or_self, if_true, if_false, ite_true, ite_false, Bool.false_eq_true, reduceIte, not_true_eq_false, not_false_eq_true, and_true, true_and, and_false, false_and, or_true, true_or, or_false, false_or, and_self, or_self, eq_self, decide_eq_true_eq, Bool.true_eq_false, reduceCtorEq, ne_eq]; done) | (simp [pCompare, b2, b6, c10, c21]; done) | (simp only [pCompare, b2, b6, eq_true c10, eq_true c21, decide_true, decide_false, Bool.not_true, Bool.not_false, Bool.and_true, Bool.true_and, Bool.and_false, Bool.false_and, Bool.or_true, Bool.true_or, Bool.or_false, Bool.false_or, Bool.and_self, Bool.or_self, if_true, if_false, ite_true, ite_false, Bool.false_eq_true, reduceIte, not_true_eq_false, not_false_eq_true, and_true, true_and, and_false, false_and, or_true, true_or, or_false, false_or, and_self, or_self, eq_self, decide_eq_true_eq, Bool.true_eq_false, reduceCtorEq, ne_eq]; done) | (simp [pCompare, b2, b6, eq_true c10, eq_true c21]; done))
theorem hdX2_compare : yX2_compare.cls = RX2 ∧ yX2_compare.cls ≠ "java/lang/invoke/MethodHandle" ∧ yX2_compare.cls ≠ "java/lang/invoke/VarHandle" ∧ (parseMethodDescriptor yX2_compare.desc).map (fun d => d.parameters.length) = some 2 := by decide +kernel
set_option maxHeartbeats 4000000 in
set_option maxRecDepth 100000 in
theorem c_X2_length (l : Launch) (D : va_G) (Y : Nat → ClassId) (ad : OA) (t : OS) (x : Int32) (hok : oOK t) : Met l yX2_length wsX2_length ({ frames := 1, cells := 0, slots := 0, locals := 21 }) (rdPc D Y [.ref (oO ad), .int x] (oW Y ad t)) (vp_Si (fun ans => ans = pLength t x)) 0 0 (fun _ => False) := by
  refine rdOf (cc := cX2_length) (maxL := 2) (ret := (some .int)) (own := RX2) (by decide) rfl rfl (Nat.le_of_ble_eq_true rfl) ?_
  intro p e s m below meth c ls hx hb hr hts hown hml hlocks hP hK hl
  have iwX0 : ∀ w ∈ u_ws RX0 TX0 7, w ∈ wsX2_length := fun _ h => List.mem_cons_of_mem _ (List.mem_append_left _ (List.mem_append_right _ h))
  have iwX2 : ∀ w ∈ u_ws RX2 TX2 10, w ∈ wsX2_length := fun _ h => List.mem_cons_of_mem _ (List.mem_append_left _ (List.mem_append_left _ (List.mem_append_right _ h)))
  have hl : lv_has ls 2 [(0, .ref (oO ad)), (1, .int x)] := hl
  refine lv_aload_n hx hb dX2_length_0 rfl (lv_at hl 0 rfl) ?_
  refine lv_iload_n hx hb dX2_length_1 rfl (lv_at hl 1 rfl) ?_
  refine rcI (As := [.int x]) (rest := []) ⟨hx, hb, hml, hown, hts⟩ (c_X2_known l D Y ad t x hok) (cwV 1 hts gX2_length_X2_known rfl rfl rfl hdX2_known ⟨Nat.le_of_ble_eq_true rfl, Nat.le_of_ble_eq_true rfl⟩) hP hK 0 3 rfl rfl rfl hl.1 rfl (Nat.le_of_ble_eq_true rfl) dX2_length_2 ⟨(Nat.zero_le _), (Nat.zero_le _)⟩ (fun r1 hr1 => ?_)
  replace hr1 : r1 = bI (pKnown t x) := hr1
  cases b2 : pKnown t x
  · replace hr1 : r1 = 0 := by rw [hr1, b2]; rfl
    subst hr1
    refine lv_if_ne (tgt := 10) hx hb dX2_length_5 (by decide) (fun c3 => absurd (by decide) c3) (fun _ => ?_)
    refine lv_iconst (v := (-1)) hx hb dX2_length_8 (by decide) ?_
    exact reI hx hb hr hlocks dX2_length_9 (by first | (simp only [pLength, b2, decide_true, decide_false, Bool.not_true, Bool.not_false, Bool.and_true, Bool.true_and, Bool.and_false, Bool.false_and, Bool.or_true, Bool.true_or, Bool.or_false, Bool.false_or, Bool.and_self, Bool.or_self, if_true, if_false, ite_true, ite_false, Bool.false_eq_true, reduceIte, not_true_eq_false, not_false_eq_true, and_true, true_and, and_false, false_and, or_true, true_or, or_false, false_or, and_self, or_self, eq_self, decide_eq_true_eq, Bool.true_eq_false, reduceCtorEq, ne_eq]; done) | (simp [pLength, b2]; done))
  · replace hr1 : r1 = 1 := by rw [hr1, b2]; rfl
    subst hr1
    refine lv_if_ne (tgt := 10) hx hb dX2_length_5 (by decide) (fun _ => ?_) (fun c4 => absurd c4 (by decide))
    refine lv_aload_n hx hb dX2_length_10 rfl (lv_at hl 0 rfl) ?_
    refine va_get (D := D) (ci := 3) (v := .ref (oH ad 0)) (C := RX2) (T := TX2) (N := 10) hx hb hts iwX2 hown hK hP 0 rfl rfl 0 (by decide) (hts (.fieldLink RX2 12 "ObjectRows" "kinds" "LObjectRows$Row;") (by decide +kernel)) (fun _ h9 => h9) rfl dX2_length_11 ?_
    refine lv_iload_n hx hb dX2_length_14 rfl (lv_at hl 1 rfl) ?_
    refine rcI (As := [.int x]) (rest := []) ⟨hx, hb, hml, hown, hts⟩ (c_X1_at l D Y (oH ad 0) (oR t 0) x (hok 0 (by decide))) (cwV 1 hts gX2_length_X1_at rfl rfl rfl hdX1_at ⟨Nat.le_of_ble_eq_true rfl, Nat.le_of_ble_eq_true rfl⟩) (oWr0 hP) hK 0 2 rfl rfl rfl hl.1 rfl (Nat.le_of_ble_eq_true rfl) dX2_length_15 ⟨(Nat.zero_le _), (Nat.zero_le _)⟩ (fun r5 hr5 => ?_)
    obtain rfl : r5 = kd t x := hr5
    by_cases c6 : kd t x = 3
    · refine lv_tableIn (off := 34) (tgt := 52) hx hb dX2_length_18 (by rw [c6]; decide) (by rw [c6]; decide) (by rw [c6]; decide) (by decide) ?_
      refine lv_aload_n hx hb dX2_length_52 rfl (lv_at hl 0 rfl) ?_
      refine va_get (D := D) (ci := 3) (v := .ref (oH ad 1)) (C := RX2) (T := TX2) (N := 10) hx hb hts iwX2 hown hK hP 0 rfl rfl 1 (by decide) (hts (.fieldLink RX2 16 "ObjectRows" "numbers" "LObjectRows$Row;") (by decide +kernel)) (fun _ h9 => h9) rfl dX2_length_53 ?_
      refine lv_iload_n hx hb dX2_length_56 rfl (lv_at hl 1 rfl) ?_
      refine rcI (As := [.int x]) (rest := []) ⟨hx, hb, hml, hown, hts⟩ (c_X1_at l D Y (oH ad 1) (oR t 1) x (hok 1 (by decide))) (cwV 1 hts gX2_length_X1_at rfl rfl rfl hdX1_at ⟨Nat.le_of_ble_eq_true rfl, Nat.le_of_ble_eq_true rfl⟩) (oWr1 hP) hK 0 2 rfl rfl rfl hl.1 rfl (Nat.le_of_ble_eq_true rfl) dX2_length_57 ⟨(Nat.zero_le _), (Nat.zero_le _)⟩ (fun r7 hr7 => ?_)
      obtain rfl : r7 = nu t x := hr7
      refine scI (As := [.int (nu t x)]) (rest := []) ⟨hx, hb, hml, hown, hts⟩ (c_X2_digits l (nu t x)) (va_cwS 1 hts gX2_length_X2_digits rfl rfl rfl hdX2_digits ⟨Nat.le_of_ble_eq_true rfl, Nat.le_of_ble_eq_true rfl⟩) rfl hl.1 rfl (Nat.le_of_ble_eq_true rfl) dX2_length_60 ⟨(Nat.zero_le _), (Nat.zero_le _)⟩ (fun r8 hr8 => ?_)
      obtain rfl : r8 = pDigits (nu t x) := hr8
      exact reI hx hb hr hlocks dX2_length_63 (by first | (simp only [pLength, b2, c6, decide_true, decide_false, Bool.not_true, Bool.not_false, Bool.and_true, Bool.true_and, Bool.and_false, Bool.false_and, Bool.or_true, Bool.true_or, Bool.or_false, Bool.false_or, Bool.and_self, Bool.or_self, if_true, if_false, ite_true, ite_false, Bool.false_eq_true, reduceIte, not_true_eq_false, not_false_eq_true, and_true, true_and, and_false, false_and, or_true, true_or, or_false, false_or, and_self, or_self, eq_self, decide_eq_true_eq, Bool.true_eq_false, reduceCtorEq, ne_eq]; done) | (simp [pLength, b2, c6]; done))
    by_cases c9 : kd t x = 4 ∨ kd t x = 5 ∨ kd t x = 6
    · refine lv_tableIn (off := 46) (tgt := 64) hx hb dX2_length_18 (by rcases c9 with c9 | c9 | c9 <;> rw [c9] <;> decide) (by rcases c9 with c9 | c9 | c9 <;> rw [c9] <;> decide) (by rcases c9 with c9 | c9 | c9 <;> rw [c9] <;> decide) (by decide) ?_
      refine lv_aload_n hx hb dX2_length_64 rfl (lv_at hl 0 rfl) ?_
      refine va_get (D := D) (ci := 3) (v := .ref (oH ad 4)) (C := RX2) (T := TX2) (N := 10) hx hb hts iwX2 hown hK hP 0 rfl rfl 4 (by decide) (hts (.fieldLink RX2 25 "ObjectRows" "lengths" "LObjectRows$Row;") (by decide +kernel)) (fun _ h9 => h9) rfl dX2_length_65 ?_
      refine lv_iload_n hx hb dX2_length_68 rfl (lv_at hl 1 rfl) ?_
      refine rcI (As := [.int x]) (rest := []) ⟨hx, hb, hml, hown, hts⟩ (c_X1_at l D Y (oH ad 4) (oR t 4) x (hok 4 (by decide))) (cwV 1 hts gX2_length_X1_at rfl rfl rfl hdX1_at ⟨Nat.le_of_ble_eq_true rfl, Nat.le_of_ble_eq_true rfl⟩) (oWr4 hP) hK 0 2 rfl rfl rfl hl.1 rfl (Nat.le_of_ble_eq_true rfl) dX2_length_69 ⟨(Nat.zero_le _), (Nat.zero_le _)⟩ (fun r10 hr10 => ?_)
      obtain rfl : r10 = len t x := hr10
      exact reI hx hb hr hlocks dX2_length_72 (by first | (simp only [pLength, b2, c6, c9, decide_true, decide_false, Bool.not_true, Bool.not_false, Bool.and_true, Bool.true_and, Bool.and_false, Bool.false_and, Bool.or_true, Bool.true_or, Bool.or_false, Bool.false_or, Bool.and_self, Bool.or_self, if_true, if_false, ite_true, ite_false, Bool.false_eq_true, reduceIte, not_true_eq_false, not_false_eq_true, and_true, true_and, and_false, false_and, or_true, true_or, or_false, false_or, and_self, or_self, eq_self, decide_eq_true_eq, Bool.true_eq_false, reduceCtorEq, ne_eq]; done) | (simp [pLength, b2, c6, c9]; done))
    by_cases c11 : kd t x = 7
    · refine lv_tableIn (off := 55) (tgt := 73) hx hb dX2_length_18 (by rw [c11]; decide) (by rw [c11]; decide) (by rw [c11]; decide) (by decide) ?_
      refine lv_aload_n hx hb dX2_length_73 rfl (lv_at hl 0 rfl) ?_
      refine va_get (D := D) (ci := 3) (v := .ref (oNow ad)) (C := RX2) (T := TX2) (N := 10) hx hb hts iwX2 hown hK hP 0 rfl rfl 6 (by decide) (hts (.fieldLink RX2 34 "ObjectRows" "now" "LObjectRows$Changing;") (by decide +kernel)) (fun _ h9 => h9) rfl dX2_length_74 ?_
      refine va_get (D := D) (ci := 1) (v := .ref (oH ad 9)) (C := RX0) (T := TX0) (N := 7) hx hb hts iwX0 hown hK hP 1 rfl rfl 3 (by decide) (hts (.fieldLink RX2 159 "ObjectRows$Changing" "entries" "LObjectRows$Row;") (by decide +kernel)) (fun _ h9 => h9) rfl dX2_length_77 ?_
      refine lv_aload_n hx hb dX2_length_80 rfl (lv_at hl 0 rfl) ?_
      refine va_get (D := D) (ci := 3) (v := .ref (oH ad 2)) (C := RX2) (T := TX2) (N := 10) hx hb hts iwX2 hown hK hP 0 rfl rfl 2 (by decide) (hts (.fieldLink RX2 19 "ObjectRows" "owners" "LObjectRows$Row;") (by decide +kernel)) (fun _ h9 => h9) rfl dX2_length_81 ?_
      refine lv_iload_n hx hb dX2_length_84 rfl (lv_at hl 1 rfl) ?_
      refine rcI (As := [.int x]) (rest := [.ref (oH ad 9)]) ⟨hx, hb, hml, hown, hts⟩ (c_X1_at l D Y (oH ad 2) (oR t 2) x (hok 2 (by decide))) (cwV 1 hts gX2_length_X1_at rfl rfl rfl hdX1_at ⟨Nat.le_of_ble_eq_true rfl, Nat.le_of_ble_eq_true rfl⟩) (oWr2 hP) hK 0 2 rfl rfl rfl hl.1 rfl (Nat.le_of_ble_eq_true rfl) dX2_length_85 ⟨(Nat.zero_le _), (Nat.zero_le _)⟩ (fun r12 hr12 => ?_)
      obtain rfl : r12 = ow t x := hr12
      refine rcI (As := [.int (ow t x)]) (rest := []) ⟨hx, hb, hml, hown, hts⟩ (c_X1_at l D Y (oH ad 9) (oR t 9) (ow t x) (hok 9 (by decide))) (cwV 1 hts gX2_length_X1_at rfl rfl rfl hdX1_at ⟨Nat.le_of_ble_eq_true rfl, Nat.le_of_ble_eq_true rfl⟩) (oWr9 hP) hK 0 2 rfl rfl rfl hl.1 rfl (Nat.le_of_ble_eq_true rfl) dX2_length_88 ⟨(Nat.zero_le _), (Nat.zero_le _)⟩ (fun r13 hr13 => ?_)
      obtain rfl : r13 = rdN t (ow t x) := hr13
      exact reI hx hb hr hlocks dX2_length_91 (by first | (simp only [pLength, b2, c6, c9, c11, decide_true, decide_false, Bool.not_true, Bool.not_false, Bool.and_true, Bool.true_and, Bool.and_false, Bool.false_and, Bool.or_true, Bool.true_or, Bool.or_false, Bool.false_or, Bool.and_self, Bool.or_self, if_true, if_false, ite_true, ite_false, Bool.false_eq_true, reduceIte, not_true_eq_false, not_false_eq_true, and_true, true_and, and_false, false_and, or_true, true_or, or_false, false_or, and_self, or_self, eq_self, decide_eq_true_eq, Bool.true_eq_false, reduceCtorEq, ne_eq]; done) | (simp [pLength, b2, c6, c9, c11]; done))
    refine lv_tableD (tgt := 92) hx hb dX2_length_18 (tblD (ks := [3, 4, 5, 6, 7]) (by decide) (List.forall_mem_cons.mpr ⟨neI c6 (by decide), (List.forall_mem_cons.mpr ⟨neI (fun h9 => c9 (Or.inl h9)) (by decide), (List.forall_mem_cons.mpr ⟨neI (fun h9 => c9 (Or.inr (Or.inl h9))) (by decide), (List.forall_mem_cons.mpr ⟨neI (fun h9 => c9 (Or.inr (Or.inr (h9)))) (by decide), (List.forall_mem_cons.mpr ⟨neI c11 (by decide), (fun _ h => absurd h List.not_mem_nil)⟩)⟩)⟩)⟩)⟩) (by decide)) (by decide) ?_
    refine lv_bipush (v := (-3)) hx hb dX2_length_92 (by decide) ?_
    exact reI hx hb hr hlocks dX2_length_94 (by first | (simp only [pLength, b2, c6, c9, c11, decide_true, decide_false, Bool.not_true, Bool.not_false, Bool.and_true, Bool.true_and, Bool.and_false, Bool.false_and, Bool.or_true, Bool.true_or, Bool.or_false, Bool.false_or, Bool.and_self, Bool.or_self, if_true, if_false, ite_true, ite_false, Bool.false_eq_true, reduceIte, not_true_eq_false, not_false_eq_true, and_true, true_and, and_false, false_and, or_true, true_or, or_false, false_or, and_self, or_self, eq_self, decide_eq_true_eq, Bool.true_eq_false, reduceCtorEq, ne_eq]; done) | (simp [pLength, b2, c6, c9, c11]; done))
theorem hdX2_length : yX2_length.cls = RX2 ∧ yX2_length.cls ≠ "java/lang/invoke/MethodHandle" ∧ yX2_length.cls ≠ "java/lang/invoke/VarHandle" ∧ (parseMethodDescriptor yX2_length.desc).map (fun d => d.parameters.length) = some 1 := by decide +kernel
set_option maxHeartbeats 4000000 in
set_option maxRecDepth 100000 in
theorem c_X2_look (l : Launch) (D : va_G) (Y : Nat → ClassId) (ad : OA) (t : OS) (d : Int32) (k : Int32) (hok : oOK t) : Met l yX2_look wsX2_look ({ frames := 6, cells := 0, slots := 0, locals := 128 }) (rdPc D Y [.ref (oO ad), .int d, .int k] (oW Y ad t)) (vp_Si (fun ans => ans = pLook t d k)) 0 0 (fun _ => False) := by
  refine rdOf (cc := cX2_look) (maxL := 5) (ret := (some .int)) (own := RX2) (by decide) rfl rfl (Nat.le_of_ble_eq_true rfl) ?_
  intro p e s m below meth c ls hx hb hr hts hown hml hlocks hP hK hl
  have iwX0 : ∀ w ∈ u_ws RX0 TX0 7, w ∈ wsX2_look := fun _ h => List.mem_cons_of_mem _ (List.mem_append_left _ (List.mem_append_right _ h))
  have iwX2 : ∀ w ∈ u_ws RX2 TX2 10, w ∈ wsX2_look := fun _ h => List.mem_cons_of_mem _ (List.mem_append_left _ (List.mem_append_left _ (List.mem_append_right _ h)))
  have hl : lv_has ls 5 [(0, .ref (oO ad)), (1, .int d), (2, .int k)] := hl
  refine lv_aload_n hx hb dX2_look_0 rfl (lv_at hl 0 rfl) ?_
  refine lv_iload_n hx hb dX2_look_1 rfl (lv_at hl 1 rfl) ?_
  refine rcI (As := [.int d]) (rest := []) ⟨hx, hb, hml, hown, hts⟩ (c_X2_known l D Y ad t d hok) (cwV 1 hts gX2_look_X2_known rfl rfl rfl hdX2_known ⟨Nat.le_of_ble_eq_true rfl, Nat.le_of_ble_eq_true rfl⟩) hP hK 0 3 rfl rfl rfl hl.1 rfl (Nat.le_of_ble_eq_true rfl) dX2_look_2 ⟨(Nat.zero_le _), (Nat.zero_le _)⟩ (fun r1 hr1 => ?_)
  replace hr1 : r1 = bI (pKnown t d) := hr1
  cases b2 : pKnown t d
  · replace hr1 : r1 = 0 := by rw [hr1, b2]; rfl
    subst hr1
    refine lv_if_eq (tgt := 16) hx hb dX2_look_5 (by decide) (fun _ => ?_) (fun c3 => absurd (by decide) c3)
    refine lv_iconst (v := (-1)) hx hb dX2_look_16 (by decide) ?_
    exact reI hx hb hr hlocks dX2_look_17 (by first | (simp only [pLook, b2, decide_true, decide_false, Bool.not_true, Bool.not_false, Bool.and_true, Bool.true_and, Bool.and_false, Bool.false_and, Bool.or_true, Bool.true_or, Bool.or_false, Bool.false_or, Bool.and_self, Bool.or_self, if_true, if_false, ite_true, ite_false, Bool.false_eq_true, reduceIte, not_true_eq_false, not_false_eq_true, and_true, true_and, and_false, false_and, or_true, true_or, or_false, false_or, and_self, or_self, eq_self, decide_eq_true_eq, Bool.true_eq_false, reduceCtorEq, ne_eq]; done) | (simp [pLook, b2]; done))
  · replace hr1 : r1 = 1 := by rw [hr1, b2]; rfl
    subst hr1
    refine lv_if_eq (tgt := 16) hx hb dX2_look_5 (by decide) (fun c4 => absurd c4 (by decide)) (fun _ => ?_)
    refine lv_aload_n hx hb dX2_look_8 rfl (lv_at hl 0 rfl) ?_
    refine lv_iload_n hx hb dX2_look_9 rfl (lv_at hl 2 rfl) ?_
    refine rcI (As := [.int k]) (rest := []) ⟨hx, hb, hml, hown, hts⟩ (c_X2_known l D Y ad t k hok) (cwV 1 hts gX2_look_X2_known rfl rfl rfl hdX2_known ⟨Nat.le_of_ble_eq_true rfl, Nat.le_of_ble_eq_true rfl⟩) hP hK 0 3 rfl rfl rfl hl.1 rfl (Nat.le_of_ble_eq_true rfl) dX2_look_10 ⟨(Nat.zero_le _), (Nat.zero_le _)⟩ (fun r5 hr5 => ?_)
    replace hr5 : r5 = bI (pKnown t k) := hr5
    cases b6 : pKnown t k
    · replace hr5 : r5 = 0 := by rw [hr5, b6]; rfl
      subst hr5
      refine lv_if_ne (tgt := 18) hx hb dX2_look_13 (by decide) (fun c7 => absurd (by decide) c7) (fun _ => ?_)
      refine lv_iconst (v := (-1)) hx hb dX2_look_16 (by decide) ?_
      exact reI hx hb hr hlocks dX2_look_17 (by first | (simp only [pLook, b2, b6, decide_true, decide_false, Bool.not_true, Bool.not_false, Bool.and_true, Bool.true_and, Bool.and_false, Bool.false_and, Bool.or_true, Bool.true_or, Bool.or_false, Bool.false_or, Bool.and_self, Bool.or_self, if_true, if_false, ite_true, ite_false, Bool.false_eq_true, reduceIte, not_true_eq_false, not_false_eq_true, and_true, true_and, and_false, false_and, or_true, true_or, or_false, false_or, and_self, or_self, eq_self, decide_eq_true_eq, Bool.true_eq_false, reduceCtorEq, ne_eq]; done) | (simp [pLook, b2, b6]; done))
    · replace hr5 : r5 = 1 := by rw [hr5, b6]; rfl
      subst hr5
      refine lv_if_ne (tgt := 18) hx hb dX2_look_13 (by decide) (fun _ => ?_) (fun c8 => absurd c8 (by decide))
      refine lv_aload_n hx hb dX2_look_18 rfl (lv_at hl 0 rfl) ?_
      refine lv_iload_n hx hb dX2_look_19 rfl (lv_at hl 2 rfl) ?_
      refine rcI (As := [.int k]) (rest := []) ⟨hx, hb, hml, hown, hts⟩ (c_X2_keyFor l D Y ad t k hok) (cwV 1 hts gX2_look_X2_keyFor rfl rfl rfl hdX2_keyFor ⟨Nat.le_of_ble_eq_true rfl, Nat.le_of_ble_eq_true rfl⟩) hP hK 0 3 rfl rfl rfl hl.1 rfl (Nat.le_of_ble_eq_true rfl) dX2_look_20 ⟨(Nat.zero_le _), (Nat.zero_le _)⟩ (fun r9 hr9 => ?_)
      obtain rfl : r9 = pKeyFor t k := hr9
      refine lv_istore_n (lv' := [(3, .int (pKeyFor t k)), (0, .ref (oO ad)), (1, .int d), (2, .int k)]) hx hb dX2_look_23 rfl hl (by decide) rfl (fun ls hl => ?_)
      refine lv_aload_n hx hb dX2_look_24 rfl (lv_at hl 1 rfl) ?_
      refine va_get (D := D) (ci := 3) (v := .ref (oH ad 0)) (C := RX2) (T := TX2) (N := 10) hx hb hts iwX2 hown hK hP 0 rfl rfl 0 (by decide) (hts (.fieldLink RX2 12 "ObjectRows" "kinds" "LObjectRows$Row;") (by decide +kernel)) (fun _ h9 => h9) rfl dX2_look_25 ?_
      refine lv_iload_n hx hb dX2_look_28 rfl (lv_at hl 2 rfl) ?_
      refine rcI (As := [.int d]) (rest := []) ⟨hx, hb, hml, hown, hts⟩ (c_X1_at l D Y (oH ad 0) (oR t 0) d (hok 0 (by decide))) (cwV 1 hts gX2_look_X1_at rfl rfl rfl hdX1_at ⟨Nat.le_of_ble_eq_true rfl, Nat.le_of_ble_eq_true rfl⟩) (oWr0 hP) hK 0 2 rfl rfl rfl hl.1 rfl (Nat.le_of_ble_eq_true rfl) dX2_look_29 ⟨(Nat.zero_le _), (Nat.zero_le _)⟩ (fun r10 hr10 => ?_)
      obtain rfl : r10 = kd t d := hr10
      refine lv_bipush (v := 7) hx hb dX2_look_32 (by decide) ?_
      refine lv_icmp_ne (tgt := 51) hx hb dX2_look_34 (by decide) (fun c11 => ?_) (fun c11 => ?_)
      · skip
        refine lv_bipush (v := (-3)) hx hb dX2_look_51 (by decide) ?_
        exact reI hx hb hr hlocks dX2_look_53 (by first | (simp only [pLook, b2, b6, c11, decide_true, decide_false, Bool.not_true, Bool.not_false, Bool.and_true, Bool.true_and, Bool.and_false, Bool.false_and, Bool.or_true, Bool.true_or, Bool.or_false, Bool.false_or, Bool.and_self, Bool.or_self, if_true, if_false, ite_true, ite_false, Bool.false_eq_true, reduceIte, not_true_eq_false, not_false_eq_true, and_true, true_and, and_false, false_and, or_true, true_or, or_false, false_or, and_self, or_self, eq_self, decide_eq_true_eq, Bool.true_eq_false, reduceCtorEq, ne_eq]; done) | (simp [pLook, b2, b6, c11]; done))
      · skip
        refine lv_aload_n hx hb dX2_look_37 rfl (lv_at hl 1 rfl) ?_
        refine lv_iload_n hx hb dX2_look_38 rfl (lv_at hl 2 rfl) ?_
        refine rcI (As := [.int d]) (rest := []) ⟨hx, hb, hml, hown, hts⟩ (c_X2_accessOf l D Y ad t d hok) (cwV 1 hts gX2_look_X2_accessOf rfl rfl rfl hdX2_accessOf ⟨Nat.le_of_ble_eq_true rfl, Nat.le_of_ble_eq_true rfl⟩) hP hK 0 3 rfl rfl rfl hl.1 rfl (Nat.le_of_ble_eq_true rfl) dX2_look_39 ⟨(Nat.zero_le _), (Nat.zero_le _)⟩ (fun r12 hr12 => ?_)
        obtain rfl : r12 = pAcc t d := hr12
        refine lv_iconst (v := 2) hx hb dX2_look_42 (by decide) ?_
        refine lv_icmp_lt (tgt := 51) hx hb dX2_look_43 (by decide) (fun c13 => ?_) (fun c13 => ?_)
        · skip
          refine lv_bipush (v := (-3)) hx hb dX2_look_51 (by decide) ?_
          exact reI hx hb hr hlocks dX2_look_53 (by first | (simp only [pLook, b2, b6, c11, c13, decide_true, decide_false, Bool.not_true, Bool.not_false, Bool.and_true, Bool.true_and, Bool.and_false, Bool.false_and, Bool.or_true, Bool.true_or, Bool.or_false, Bool.false_or, Bool.and_self, Bool.or_self, if_true, if_false, ite_true, ite_false, Bool.false_eq_true, reduceIte, not_true_eq_false, not_false_eq_true, and_true, true_and, and_false, false_and, or_true, true_or, or_false, false_or, and_self, or_self, eq_self, decide_eq_true_eq, Bool.true_eq_false, reduceCtorEq, ne_eq]; done) | (simp [pLook, b2, b6, c11, c13, Int32.not_le.mpr c13]; done) | (simp only [pLook, b2, b6, eq_true c11, c13, decide_true, decide_false, Bool.not_true, Bool.not_false, Bool.and_true, Bool.true_and, Bool.and_false, Bool.false_and, Bool.or_true, Bool.true_or, Bool.or_false, Bool.false_or, Bool.and_self, Bool.or_self, if_true, if_false, ite_true, ite_false, Bool.false_eq_true, reduceIte, not_true_eq_false, not_false_eq_true, and_true, true_and, and_false, false_and, or_true, true_or, or_false, false_or, and_self, or_self, eq_self, decide_eq_true_eq, Bool.true_eq_false, reduceCtorEq, ne_eq]; done) | (simp [pLook, b2, b6, eq_true c11, c13, Int32.not_le.mpr c13]; done))
        · skip
          refine lv_iload_n hx hb dX2_look_46 rfl (lv_at hl 0 rfl) ?_
          refine lv_iconst (v := (-1)) hx hb dX2_look_47 (by decide) ?_
          refine lv_icmp_ne (tgt := 54) hx hb dX2_look_48 (by decide) (fun c14 => ?_) (fun c14 => ?_)
          · skip
            refine lv_aload_n hx hb dX2_look_54 rfl (lv_at hl 1 rfl) ?_
            refine lv_iload_n hx hb dX2_look_55 rfl (lv_at hl 2 rfl) ?_
            refine lv_iload_n hx hb dX2_look_56 rfl (lv_at hl 0 rfl) ?_
            refine rcI (As := [.int d, .int (pKeyFor t k)]) (rest := []) ⟨hx, hb, hml, hown, hts⟩ (c_X2_placeOf l D Y ad t d (pKeyFor t k) hok) (cwV 2 hts gX2_look_X2_placeOf rfl rfl rfl hdX2_placeOf ⟨Nat.le_of_ble_eq_true rfl, Nat.le_of_ble_eq_true rfl⟩) hP hK 0 3 rfl rfl rfl hl.1 rfl (Nat.le_of_ble_eq_true rfl) dX2_look_57 ⟨(Nat.zero_le _), (Nat.zero_le _)⟩ (fun r15 hr15 => ?_)
            obtain rfl : r15 = pPlaceOf t d (pKeyFor t k) := hr15
            refine lv_istore (lv' := [(4, .int (pPlaceOf t d (pKeyFor t k))), (3, .int (pKeyFor t k)), (0, .ref (oO ad)), (1, .int d), (2, .int k)]) hx hb dX2_look_60 hl (by decide) rfl (fun ls hl => ?_)
            refine lv_iload hx hb dX2_look_62 (lv_at hl 0 rfl) ?_
            refine lv_iconst (v := (-1)) hx hb dX2_look_64 (by decide) ?_
            refine lv_icmp_ne (tgt := 73) hx hb dX2_look_65 (by decide) (fun c16 => ?_) (fun c16 => ?_)
            · skip
              refine lv_aload_n hx hb dX2_look_73 rfl (lv_at hl 2 rfl) ?_
              refine va_get (D := D) (ci := 3) (v := .ref (oNow ad)) (C := RX2) (T := TX2) (N := 10) hx hb hts iwX2 hown hK hP 0 rfl rfl 6 (by decide) (hts (.fieldLink RX2 34 "ObjectRows" "now" "LObjectRows$Changing;") (by decide +kernel)) (fun _ h9 => h9) rfl dX2_look_74 ?_
              refine va_get (D := D) (ci := 1) (v := .ref (oH ad 11)) (C := RX0) (T := TX0) (N := 7) hx hb hts iwX0 hown hK hP 1 rfl rfl 5 (by decide) (hts (.fieldLink RX2 67 "ObjectRows$Changing" "elements" "LObjectRows$Row;") (by decide +kernel)) (fun _ h9 => h9) rfl dX2_look_77 ?_
              refine lv_aload_n hx hb dX2_look_80 rfl (lv_at hl 2 rfl) ?_
              refine lv_iload_n hx hb dX2_look_81 rfl (lv_at hl 3 rfl) ?_
              refine lv_iload hx hb dX2_look_82 (lv_at hl 0 rfl) ?_
              refine rcI (As := [.int d, .int (pPlaceOf t d (pKeyFor t k))]) (rest := [.ref (oH ad 11)]) ⟨hx, hb, hml, hown, hts⟩ (c_X2_valueCell l D Y ad t d (pPlaceOf t d (pKeyFor t k)) hok) (cwV 2 hts gX2_look_X2_valueCell rfl rfl rfl hdX2_valueCell ⟨Nat.le_of_ble_eq_true rfl, Nat.le_of_ble_eq_true rfl⟩) hP hK 0 3 rfl rfl rfl hl.1 rfl (Nat.le_of_ble_eq_true rfl) dX2_look_84 ⟨(Nat.zero_le _), (Nat.zero_le _)⟩ (fun r17 hr17 => ?_)
              obtain rfl : r17 = pValCell t d (pPlaceOf t d (pKeyFor t k)) := hr17
              refine rcI (As := [.int (pValCell t d (pPlaceOf t d (pKeyFor t k)))]) (rest := []) ⟨hx, hb, hml, hown, hts⟩ (c_X1_at l D Y (oH ad 11) (oR t 11) (pValCell t d (pPlaceOf t d (pKeyFor t k))) (hok 11 (by decide))) (cwV 1 hts gX2_look_X1_at rfl rfl rfl hdX1_at ⟨Nat.le_of_ble_eq_true rfl, Nat.le_of_ble_eq_true rfl⟩) (oWr11 hP) hK 0 2 rfl rfl rfl hl.1 rfl (Nat.le_of_ble_eq_true rfl) dX2_look_87 ⟨(Nat.zero_le _), (Nat.zero_le _)⟩ (fun r18 hr18 => ?_)
              obtain rfl : r18 = rdE t (pValCell t d (pPlaceOf t d (pKeyFor t k))) := hr18
              exact reI hx hb hr hlocks dX2_look_90 (by first | (simp only [pLook, b2, b6, c11, c13, c14, c16, decide_true, decide_false, Bool.not_true, Bool.not_false, Bool.and_true, Bool.true_and, Bool.and_false, Bool.false_and, Bool.or_true, Bool.true_or, Bool.or_false, Bool.false_or, Bool.and_self, Bool.or_self, if_true, if_false, ite_true, ite_false, Bool.false_eq_true, reduceIte, not_true_eq_false, not_false_eq_true, and_true, true_and, and_false, false_and, or_true, true_or, or_false, false_or, and_self, or_self, eq_self, decide_eq_true_eq, Bool.true_eq_false, reduceCtorEq, ne_eq]; done) | (simp [pLook, b2, b6, c11, c13, c14, c16, Int32.not_lt.mp c13]; done) | (simp only [pLook, b2, b6, eq_true c11, c13, c14, c16, decide_true, decide_false, Bool.not_true, Bool.not_false, Bool.and_true, Bool.true_and, Bool.and_false, Bool.false_and, Bool.or_true, Bool.true_or, Bool.or_false, Bool.false_or, Bool.and_self, Bool.or_self, if_true, if_false, ite_true, ite_false, Bool.false_eq_true, reduceIte, not_true_eq_false, not_false_eq_true, and_true, true_and, and_false, false_and, or_true, true_or, or_false, false_or, and_self, or_self, eq_self, decide_eq_true_eq, Bool.true_eq_false, reduceCtorEq, ne_eq]; done) | (simp [pLook, b2, b6, eq_true c11, c13, c14, c16, Int32.not_lt.mp c13]; done))
            · skip
              refine lv_bipush (v := (-5)) hx hb dX2_look_68 (by decide) ?_
              refine lv_goto (tgt := 90) hx hb dX2_look_70 (by decide) ?_
              exact reI hx hb hr hlocks dX2_look_90 (by first | (simp only [pLook, b2, b6, c11, c13, c14, c16, decide_true, decide_false, Bool.not_true, Bool.not_false, Bool.and_true, Bool.true_and, Bool.and_false, Bool.false_and, Bool.or_true, Bool.true_or, Bool.or_false, Bool.false_or, Bool.and_self, Bool.or_self, if_true, if_false, ite_true, ite_false, Bool.false_eq_true, reduceIte, not_true_eq_false, not_false_eq_true, and_true, true_and, and_false, false_and, or_true, true_or, or_false, false_or, and_self, or_self, eq_self, decide_eq_true_eq, Bool.true_eq_false, reduceCtorEq, ne_eq]; done) | (simp [pLook, b2, b6, c11, c13, c14, c16, Int32.not_lt.mp c13]; done) | (simp only [pLook, b2, b6, eq_true c11, c13, c14, eq_true c16, decide_true, decide_false, Bool.not_true, Bool.not_false, Bool.and_true, Bool.true_and, Bool.and_false, Bool.false_and, Bool.or_true, Bool.true_or, Bool.or_false, Bool.false_or, Bool.and_self, Bool.or_self, if_true, if_false, ite_true, ite_false, Bool.false_eq_true, reduceIte, not_true_eq_false, not_false_eq_true, and_true, true_and, and_false, false_and, or_true, true_or, or_false, false_or, and_self, or_self, eq_self, decide_eq_true_eq, Bool.true_eq_false, reduceCtorEq, ne_eq]; done) | (simp [pLook, b2, b6, eq_true c11, c13, c14, eq_true c16, Int32.not_lt.mp c13]; done))
          · skip
            refine lv_bipush (v := (-3)) hx hb dX2_look_51 (by decide) ?_
            exact reI hx hb hr hlocks dX2_look_53 (by first | (simp only [pLook, b2, b6, c11, c13, c14, decide_true, decide_false, Bool.not_true, Bool.not_false, Bool.and_true, Bool.true_and, Bool.and_false, Bool.false_and, Bool.or_true, Bool.true_or, Bool.or_false, Bool.false_or, Bool.and_self, Bool.or_self, if_true, if_false, ite_true, ite_false, Bool.false_eq_true, reduceIte, not_true_eq_false, not_false_eq_true, and_true, true_and, and_false, false_and, or_true, true_or, or_false, false_or, and_self, or_self, eq_self, decide_eq_true_eq, Bool.true_eq_false, reduceCtorEq, ne_eq]; done) | (simp [pLook, b2, b6, c11, c13, c14, Int32.not_lt.mp c13]; done) | (simp only [pLook, b2, b6, eq_true c11, c13, eq_true c14, decide_true, decide_false, Bool.not_true, Bool.not_false, Bool.and_true, Bool.true_and, Bool.and_false, Bool.false_and, Bool.or_true, Bool.true_or, Bool.or_false, Bool.false_or, Bool.and_self, Bool.or_self, if_true, if_false, ite_true, ite_false, Bool.false_eq_true, reduceIte, not_true_eq_false, not_false_eq_true, and_true, true_and, and_false, false_and, or_true, true_or, or_false, false_or, and_self, or_self, eq_self, decide_eq_true_eq, Bool.true_eq_false, reduceCtorEq, ne_eq]; done) | (simp [pLook, b2, b6, eq_true c11, c13, eq_true c14, Int32.not_lt.mp c13]; done))
theorem hdX2_look : yX2_look.cls = RX2 ∧ yX2_look.cls ≠ "java/lang/invoke/MethodHandle" ∧ yX2_look.cls ≠ "java/lang/invoke/VarHandle" ∧ (parseMethodDescriptor yX2_look.desc).map (fun d => d.parameters.length) = some 2 := by decide +kernel
