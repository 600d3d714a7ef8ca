/-! keptBy: the reference that a SAVE keeps, or null -/
def gKept (t : OS) (g : Nat → Option Nat) (x : Int32) : Option Nat := if ¬ kd t x = 11 then none else if nu t x < 0 then none else if nI 3 ≤ nu t x then none else g (nu t x).toNatClampNeg
theorem oWk {D : va_G} {Y : Nat → ClassId} {ad : OA} {t : OS} {g : Nat → Option Nat} {H : Heap} (hP : va_P D vwCl (oW Y ad t ++ kW Y (oKp ad) g) H) : va_P D vwCl (oW Y ad t) H := va_P_mem (fun _ h => List.mem_append_left _ h) hP
theorem reQ {p : Program} {l : Launch} {e : Env} {R : Room} {s : State} {m : MethodId} {args : Array Value} {below : List Frame} {meth : Method} {c : Code} {cc : ByteArray} {pc : Nat} {ls : Array Slot} {post : Option Nat → Prop} {r : Option Nat} {C : String} (hx : p.tables.exec = Jvm.exec) (hb : c.code = cc) (hr : meth.sig.returnType = some (.object C)) (hlocks : meth.locks = false) (hd : decode cc pc = .ok (.areturn, 1)) (h : post r) : W p l e R s m args below meth c s.heap [] 0 0 (MQ below (va_Sq post) args s 0 0 (fun _ => False)) (F0 m pc ls [va_rf r]) :=
  W.aret hx hb hr (Or.inl ⟨_, rfl⟩) (va_rf_or r) (fun _ ht _ => ⟨r, rfl, h, ht⟩) (fun _ h => by cases h) hd hlocks
set_option maxHeartbeats 4000000 in
set_option maxRecDepth 100000 in
theorem c_X2_keptBy (l : Launch) (D : va_G) (Y : Nat → ClassId) (ad : OA) (t : OS) (g : Nat → Option Nat) (x : Int32) (hok : oOK t) : Met l yX2_keptBy wsX2_keptBy ({ frames := 1, cells := 0, slots := 0, locals := 21 }) (rdPc D Y [.ref (oO ad), .int x] (oW Y ad t ++ kW Y (oKp ad) g)) (va_Sq (fun ans => ans = gKept t g x)) 0 0 (fun _ => False) := by
  refine rdOf (cc := cX2_keptBy) (maxL := 4) (ret := (some (.object "ObjectRows$Changing"))) (own := RX2) (by decide) rfl rfl (Nat.le_of_ble_eq_true rfl) ?_
  intro p e s m below meth c ls hx hb hr hts hown hml hlocks hP hK hl
  have iwX2 : ∀ w ∈ u_ws RX2 TX2 10, w ∈ wsX2_keptBy := fun _ h => List.mem_cons_of_mem _ (List.mem_append_left _ (List.mem_append_right _ h))
  have hl : lv_has ls 4 [(0, .ref (oO ad)), (1, .int x)] := hl
  refine lv_aload_n hx hb dX2_keptBy_0 rfl (lv_at hl 0 rfl) ?_
  refine va_get (D := D) (ci := 3) (v := .ref (oH ad 1)) (C := RX2) (T := TX2) (N := 10) hx hb hts iwX2 hown hK hP 0 rfl rfl 1 (by decide) (hts (.fieldLink RX2 16 "ObjectRows" "numbers" "LObjectRows$Row;") (by decide +kernel)) (fun _ h9 => h9) rfl dX2_keptBy_1 ?_
  refine lv_iload_n hx hb dX2_keptBy_4 rfl (lv_at hl 1 rfl) ?_
  refine rcI (As := [.int x]) (rest := []) ⟨hx, hb, hml, hown, hts⟩ (c_X1_at l D Y (oH ad 1) (oR t 1) x (hok 1 (by decide))) (cwV 1 hts gX2_keptBy_X1_at rfl rfl rfl hdX1_at ⟨Nat.le_of_ble_eq_true rfl, Nat.le_of_ble_eq_true rfl⟩) (oWr1 (oWk hP)) hK 0 2 rfl rfl rfl hl.1 rfl (Nat.le_of_ble_eq_true rfl) dX2_keptBy_5 ⟨(Nat.zero_le _), (Nat.zero_le _)⟩ (fun r1 hr1 => ?_)
  obtain rfl : r1 = nu t x := hr1
  refine lv_istore_n (lv' := [(2, .int (nu t x)), (0, .ref (oO ad)), (1, .int x)]) hx hb dX2_keptBy_8 rfl hl (by decide) rfl (fun ls hl => ?_)
  refine lv_aload_n hx hb dX2_keptBy_9 rfl (lv_at hl 1 rfl) ?_
  refine va_get (D := D) (ci := 3) (v := .ref (oH ad 0)) (C := RX2) (T := TX2) (N := 10) hx hb hts iwX2 hown hK hP 0 rfl rfl 0 (by decide) (hts (.fieldLink RX2 12 "ObjectRows" "kinds" "LObjectRows$Row;") (by decide +kernel)) (fun _ h9 => h9) rfl dX2_keptBy_10 ?_
  refine lv_iload_n hx hb dX2_keptBy_13 rfl (lv_at hl 2 rfl) ?_
  refine rcI (As := [.int x]) (rest := []) ⟨hx, hb, hml, hown, hts⟩ (c_X1_at l D Y (oH ad 0) (oR t 0) x (hok 0 (by decide))) (cwV 1 hts gX2_keptBy_X1_at rfl rfl rfl hdX1_at ⟨Nat.le_of_ble_eq_true rfl, Nat.le_of_ble_eq_true rfl⟩) (oWr0 (oWk hP)) hK 0 2 rfl rfl rfl hl.1 rfl (Nat.le_of_ble_eq_true rfl) dX2_keptBy_14 ⟨(Nat.zero_le _), (Nat.zero_le _)⟩ (fun r2 hr2 => ?_)
  obtain rfl : r2 = kd t x := hr2
  refine lv_bipush (v := 11) hx hb dX2_keptBy_17 (by decide) ?_
  refine lv_icmp_ne (tgt := 39) hx hb dX2_keptBy_19 (by decide) (fun c3 => ?_) (fun c3 => ?_)
  · skip
    refine lv_iconst (v := 0) hx hb dX2_keptBy_39 (by decide) ?_
    refine lv_istore_n (lv' := [(3, .int 0), (2, .int (nu t x)), (0, .ref (oO ad)), (1, .int x)]) hx hb dX2_keptBy_40 rfl hl (by decide) rfl (fun ls hl => ?_)
    refine lv_iload_n hx hb dX2_keptBy_41 rfl (lv_at hl 0 rfl) ?_
    refine lv_if_eq (tgt := 54) hx hb dX2_keptBy_42 (by decide) (fun _ => ?_) (fun c4 => absurd (by decide) c4)
    refine lv_null hx hb dX2_keptBy_54 ?_
    exact reQ (r := none) hx hb hr hlocks dX2_keptBy_55 (by first | (simp only [gKept, c3, decide_true, decide_false, Bool.not_true, Bool.not_false, Bool.and_true, Bool.true_and, Bool.and_false, Bool.false_and, Bool.or_true, Bool.true_or, Bool.or_false, Bool.false_or, Bool.and_self, Bool.or_self, if_true, if_false, ite_true, ite_false, Bool.false_eq_true, reduceIte, not_true_eq_false, not_false_eq_true, and_true, true_and, and_false, false_and, or_true, true_or, or_false, false_or, and_self, or_self, eq_self, decide_eq_true_eq, Bool.true_eq_false, reduceCtorEq, ne_eq]; done) | (simp [gKept, c3]; done))
  · skip
    refine lv_iload_n hx hb dX2_keptBy_22 rfl (lv_at hl 0 rfl) ?_
    refine lv_if_lt (tgt := 39) hx hb dX2_keptBy_23 (by decide) (fun c5 => ?_) (fun c5 => ?_)
    · skip
      refine lv_iconst (v := 0) hx hb dX2_keptBy_39 (by decide) ?_
      refine lv_istore_n (lv' := [(3, .int 0), (2, .int (nu t x)), (0, .ref (oO ad)), (1, .int x)]) hx hb dX2_keptBy_40 rfl hl (by decide) rfl (fun ls hl => ?_)
      refine lv_iload_n hx hb dX2_keptBy_41 rfl (lv_at hl 0 rfl) ?_
      refine lv_if_eq (tgt := 54) hx hb dX2_keptBy_42 (by decide) (fun _ => ?_) (fun c6 => absurd (by decide) c6)
      refine lv_null hx hb dX2_keptBy_54 ?_
      exact reQ (r := none) hx hb hr hlocks dX2_keptBy_55 (by first | (simp only [gKept, c3, c5, decide_true, decide_false, Bool.not_true, Bool.not_false, Bool.and_true, Bool.true_and, Bool.and_false, Bool.false_and, Bool.or_true, Bool.true_or, Bool.or_false, Bool.false_or, Bool.and_self, Bool.or_self, if_true, if_false, ite_true, ite_false, Bool.false_eq_true, reduceIte, not_true_eq_false, not_false_eq_true, and_true, true_and, and_false, false_and, or_true, true_or, or_false, false_or, and_self, or_self, eq_self, decide_eq_true_eq, Bool.true_eq_false, reduceCtorEq, ne_eq]; done) | (simp [gKept, c3, c5, Int32.not_le.mpr c5]; done) | (simp only [gKept, eq_true c3, c5, decide_true, decide_false, Bool.not_true, Bool.not_false, Bool.and_true, Bool.true_and, Bool.and_false, Bool.false_and, Bool.or_true, Bool.true_or, Bool.or_false, Bool.false_or, Bool.and_self, Bool.or_self, if_true, if_false, ite_true, ite_false, Bool.false_eq_true, reduceIte, not_true_eq_false, not_false_eq_true, and_true, true_and, and_false, false_and, or_true, true_or, or_false, false_or, and_self, or_self, eq_self, decide_eq_true_eq, Bool.true_eq_false, reduceCtorEq, ne_eq]; done) | (simp [gKept, eq_true c3, c5, Int32.not_le.mpr c5]; done))
    · skip
      refine lv_iload_n hx hb dX2_keptBy_26 rfl (lv_at hl 0 rfl) ?_
      refine lv_aload_n hx hb dX2_keptBy_27 rfl (lv_at hl 1 rfl) ?_
      refine va_get (D := D) (ci := 3) (v := .ref (oKp ad)) (C := RX2) (T := TX2) (N := 10) hx hb hts iwX2 hown hK hP 0 rfl rfl 7 (by decide) (hts (.fieldLink RX2 38 "ObjectRows" "kept" "[LObjectRows$Changing;") (by decide +kernel)) (fun _ h9 => h9) rfl dX2_keptBy_28 ?_
      refine va_alen (v := nI 3) hx hb hK hP 26 4 rfl rfl rfl dX2_keptBy_31 ?_
      refine lv_icmp_ge (tgt := 39) hx hb dX2_keptBy_32 (by decide) (fun c7 => ?_) (fun c7 => ?_)
      · skip
        refine lv_iconst (v := 0) hx hb dX2_keptBy_39 (by decide) ?_
        refine lv_istore_n (lv' := [(3, .int 0), (2, .int (nu t x)), (0, .ref (oO ad)), (1, .int x)]) hx hb dX2_keptBy_40 rfl hl (by decide) rfl (fun ls hl => ?_)
        refine lv_iload_n hx hb dX2_keptBy_41 rfl (lv_at hl 0 rfl) ?_
        refine lv_if_eq (tgt := 54) hx hb dX2_keptBy_42 (by decide) (fun _ => ?_) (fun c8 => absurd (by decide) c8)
        refine lv_null hx hb dX2_keptBy_54 ?_
        exact reQ (r := none) hx hb hr hlocks dX2_keptBy_55 (by first | (simp only [gKept, c3, c5, c7, decide_true, decide_false, Bool.not_true, Bool.not_false, Bool.and_true, Bool.true_and, Bool.and_false, Bool.false_and, Bool.or_true, Bool.true_or, Bool.or_false, Bool.false_or, Bool.and_self, Bool.or_self, if_true, if_false, ite_true, ite_false, Bool.false_eq_true, reduceIte, not_true_eq_false, not_false_eq_true, and_true, true_and, and_false, false_and, or_true, true_or, or_false, false_or, and_self, or_self, eq_self, decide_eq_true_eq, Bool.true_eq_false, reduceCtorEq, ne_eq]; done) | (simp [gKept, c3, c5, c7, Int32.not_lt.mp c5, Int32.not_lt.mpr c7]; done) | (simp only [gKept, eq_true c3, c5, c7, decide_true, decide_false, Bool.not_true, Bool.not_false, Bool.and_true, Bool.true_and, Bool.and_false, Bool.false_and, Bool.or_true, Bool.true_or, Bool.or_false, Bool.false_or, Bool.and_self, Bool.or_self, if_true, if_false, ite_true, ite_false, Bool.false_eq_true, reduceIte, not_true_eq_false, not_false_eq_true, and_true, true_and, and_false, false_and, or_true, true_or, or_false, false_or, and_self, or_self, eq_self, decide_eq_true_eq, Bool.true_eq_false, reduceCtorEq, ne_eq]; done) | (simp [gKept, eq_true c3, c5, c7, Int32.not_lt.mp c5, Int32.not_lt.mpr c7]; done))
      · skip
        refine lv_iconst (v := 1) hx hb dX2_keptBy_35 (by decide) ?_
        refine lv_goto (tgt := 40) hx hb dX2_keptBy_36 (by decide) ?_
        refine lv_istore_n (lv' := [(3, .int 1), (2, .int (nu t x)), (0, .ref (oO ad)), (1, .int x)]) hx hb dX2_keptBy_40 rfl hl (by decide) rfl (fun ls hl => ?_)
        refine lv_iload_n hx hb dX2_keptBy_41 rfl (lv_at hl 0 rfl) ?_
        refine lv_if_eq (tgt := 54) hx hb dX2_keptBy_42 (by decide) (fun c9 => absurd c9 (by decide)) (fun _ => ?_)
        refine lv_aload_n hx hb dX2_keptBy_45 rfl (lv_at hl 2 rfl) ?_
        refine va_get (D := D) (ci := 3) (v := .ref (oKp ad)) (C := RX2) (T := TX2) (N := 10) hx hb hts iwX2 hown hK hP 0 rfl rfl 7 (by decide) (hts (.fieldLink RX2 38 "ObjectRows" "kept" "[LObjectRows$Changing;") (by decide +kernel)) (fun _ h9 => h9) rfl dX2_keptBy_46 ?_
        refine lv_iload_n hx hb dX2_keptBy_49 rfl (lv_at hl 1 rfl) ?_
        refine va_aldq hx hb hK hP 26 4 rfl rfl (inbR (by decide) c5 c7) dX2_keptBy_50 ?_
        refine lv_goto (tgt := 55) hx hb dX2_keptBy_51 (by decide) ?_
        exact reQ (r := g (nu t x).toNatClampNeg) hx hb hr hlocks dX2_keptBy_55 (by first | (simp only [gKept, c3, c5, c7, decide_true, decide_false, Bool.not_true, Bool.not_false, Bool.and_true, Bool.true_and, Bool.and_false, Bool.false_and, Bool.or_true, Bool.true_or, Bool.or_false, Bool.false_or, Bool.and_self, Bool.or_self, if_true, if_false, ite_true, ite_false, Bool.false_eq_true, reduceIte, not_true_eq_false, not_false_eq_true, and_true, true_and, and_false, false_and, or_true, true_or, or_false, false_or, and_self, or_self, eq_self, decide_eq_true_eq, Bool.true_eq_false, reduceCtorEq, ne_eq]; done) | (simp [gKept, c3, c5, c7, Int32.not_lt.mp c5, Int32.not_le.mp c7]; done) | (simp only [gKept, eq_true c3, c5, c7, decide_true, decide_false, Bool.not_true, Bool.not_false, Bool.and_true, Bool.true_and, Bool.and_false, Bool.false_and, Bool.or_true, Bool.true_or, Bool.or_false, Bool.false_or, Bool.and_self, Bool.or_self, if_true, if_false, ite_true, ite_false, Bool.false_eq_true, reduceIte, not_true_eq_false, not_false_eq_true, and_true, true_and, and_false, false_and, or_true, true_or, or_false, false_or, and_self, or_self, eq_self, decide_eq_true_eq, Bool.true_eq_false, reduceCtorEq, ne_eq]; done) | (simp [gKept, eq_true c3, c5, c7, Int32.not_lt.mp c5, Int32.not_le.mp c7]; done))
