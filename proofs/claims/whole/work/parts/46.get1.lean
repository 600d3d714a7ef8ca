/-! ObjectRows.get: it returns, or it throws -/
def pGetT (t : OS) (x i : Int32) : Bool := pKnown t x && pView (kd t x) && !decide (pAcc t x < 2) && !pHasEl t x i
def pGet (t : OS) (x i : Int32) : Int32 := if pKnown t x = false then -1 else if pView (kd t x) = false then -3 else if pAcc t x < 2 then -3 else pEl t x i
set_option maxHeartbeats 4000000 in
set_option maxRecDepth 100000 in
theorem w_get {p : Program} {l : Launch} {e : Env} {R : Room} {s : State} {m : MethodId} {args : Array Value} {below : List Frame} {meth : Method} {c : Code} {H : Heap} {locs : List Loc} {cells slots : Nat} {Q : State → Prop} {ls : Array Slot} {D : va_G} {Y : Nat → ClassId} {ad : OA} {t : OS} {x i : Int32}
    (hx : p.tables.exec = Jvm.exec) (hb : c.code = cX2_get) (hts : ∀ w ∈ wsX2_get, w.before args s = true) (hown : s.vm.findClass RX2 = some m.cls) (hml : c.maxLocals = 3) (hP : va_P D vwCl (oW Y ad t) H) (hK : va_K D vwCl (tyA Y) s) (hl : lv_has ls 3 [(0, .ref (oO ad)), (1, .int x), (2, .int i)]) (hok : oOK t) (hRf : 4 ≤ R.frames) (hRl : 100 ≤ R.locals) (hcs : cells ≤ R.cells ∧ slots ≤ R.slots)
    (kI : ∀ (pc : Nat) (v : Int32), decode cX2_get pc = .ok (.ireturn, 1) → pGetT t x i = false → v = pGet t x i → W p l e R s m args below meth c H locs cells slots Q (F0 m pc ls [.int v]))
    (kT : pGetT t x i = true → W p l e R s m args below meth c H locs cells slots Q (F0 m 45 ls [])) : W p l e R s m args below meth c H locs cells slots Q (F0 m 0 ls []) := by
  have iwX2 : ∀ w ∈ u_ws RX2 TX2 10, w ∈ wsX2_get := fun _ h => List.mem_cons_of_mem _ (List.mem_append_left _ (List.mem_append_left _ (List.mem_append_left _ (List.mem_append_right _ h))))
  refine lv_aload_n hx hb dX2_get_0 rfl (lv_at hl 0 rfl) ?_
  refine lv_iload_n hx hb dX2_get_1 rfl (lv_at hl 1 rfl) ?_
  refine rcI (As := [.int x]) (rest := []) ⟨hx, hb, hml, hown, hts⟩ (c_X2_known l D Y ad t x hok) (cwV 1 hts gX2_get_X2_known rfl rfl rfl hdX2_known ⟨by dsimp only; omega, by dsimp only; omega⟩) hP hK 0 3 rfl rfl rfl hl.1 rfl (Nat.le_of_ble_eq_true rfl) dX2_get_2 hcs (fun r1 hr1 => ?_)
  replace hr1 : r1 = bI (pKnown t x) := hr1
  cases b1 : pKnown t x
  · replace hr1 : r1 = 0 := by rw [hr1, b1]; rfl
    subst hr1
    refine lv_if_ne (tgt := 10) hx hb dX2_get_5 (by decide) (fun c3 => absurd rfl c3) (fun _ => ?_)
    refine lv_iconst (v := -1) hx hb dX2_get_8 (by decide) ?_
    exact kI 9 _ dX2_get_9 (by simp [pGetT, b1]) (by rw [pGet, if_pos b1])
  replace hr1 : r1 = 1 := by rw [hr1, b1]; rfl
  subst hr1
  have n1 : ¬ pKnown t x = false := by rw [b1]; decide
  refine lv_if_ne (tgt := 10) hx hb dX2_get_5 (by decide) (fun _ => ?_) (fun c3 => absurd c3 (by decide))
  refine lv_aload_n hx hb dX2_get_10 rfl (lv_at hl 0 rfl) ?_
  refine va_get (D := D) (ci := 3) (v := .ref (oH ad 0)) (C := RX2) (T := TX2) (N := 10) hx hb hts iwX2 hown hK hP 0 rfl rfl 0 (by decide) (hts (.fieldLink RX2 12 "ObjectRows" "kinds" "LObjectRows$Row;") (by decide +kernel)) (fun _ h9 => h9) rfl dX2_get_11 ?_
  refine lv_iload_n hx hb dX2_get_14 rfl (lv_at hl 1 rfl) ?_
  refine rcI (As := [.int x]) (rest := []) ⟨hx, hb, hml, hown, hts⟩ (c_X1_at l D Y (oH ad 0) (oR t 0) x (hok 0 (by decide))) (cwV 1 hts gX2_get_X1_at rfl rfl rfl hdX1_at ⟨by dsimp only; omega, by dsimp only; omega⟩) (oWr0 hP) hK 0 2 rfl rfl rfl hl.1 rfl (Nat.le_of_ble_eq_true rfl) dX2_get_15 hcs (fun r2 hr2 => ?_)
  obtain rfl : r2 = kd t x := hr2
  refine scI (As := [.int (kd t x)]) (rest := []) ⟨hx, hb, hml, hown, hts⟩ (c_X2_isView l (kd t x)) (va_cwS 1 hts gX2_get_X2_isView rfl rfl rfl hdX2_isView ⟨by dsimp only; omega, by dsimp only; omega⟩) rfl hl.1 rfl (Nat.le_of_ble_eq_true rfl) dX2_get_18 hcs (fun r3 hr3 => ?_)
  replace hr3 : r3 = bI (pView (kd t x)) := hr3
  cases b2 : pView (kd t x)
  · replace hr3 : r3 = 0 := by rw [hr3, b2]; rfl
    subst hr3
    refine lv_if_eq (tgt := 33) hx hb dX2_get_21 (by decide) (fun _ => ?_) (fun c4 => absurd rfl c4)
    refine lv_bipush (v := -3) hx hb dX2_get_33 (by decide) ?_
    exact kI 35 _ dX2_get_35 (by simp [pGetT, b1, b2]) (by rw [pGet, if_neg n1, if_pos b2])
  replace hr3 : r3 = 1 := by rw [hr3, b2]; rfl
  subst hr3
  have n2 : ¬ pView (kd t x) = false := by rw [b2]; decide
  refine lv_if_eq (tgt := 33) hx hb dX2_get_21 (by decide) (fun c4 => absurd c4 (by decide)) (fun _ => ?_)
  refine lv_aload_n hx hb dX2_get_24 rfl (lv_at hl 0 rfl) ?_
  refine lv_iload_n hx hb dX2_get_25 rfl (lv_at hl 1 rfl) ?_
  refine rcI (As := [.int x]) (rest := []) ⟨hx, hb, hml, hown, hts⟩ (c_X2_accessOf l D Y ad t x hok) (cwV 1 hts gX2_get_X2_accessOf rfl rfl rfl hdX2_accessOf ⟨by dsimp only; omega, by dsimp only; omega⟩) hP hK 0 3 rfl rfl rfl hl.1 rfl (Nat.le_of_ble_eq_true rfl) dX2_get_26 hcs (fun r4 hr4 => ?_)
  obtain rfl : r4 = pAcc t x := hr4
  refine lv_iconst (v := 2) hx hb dX2_get_29 (by decide) ?_
  refine lv_icmp_ge (tgt := 36) hx hb dX2_get_30 (by decide) (fun c5 => ?_) (fun c5 => ?_)
  rotate_left
  · have c6 : pAcc t x < 2 := Int32.not_le.mp c5
    refine lv_bipush (v := -3) hx hb dX2_get_33 (by decide) ?_
    exact kI 35 _ dX2_get_35 (by simp [pGetT, c6]) (by rw [pGet, if_neg n1, if_neg n2, if_pos c6])
  have c6 : ¬ pAcc t x < 2 := Int32.not_lt.mpr c5
  refine lv_aload_n hx hb dX2_get_36 rfl (lv_at hl 0 rfl) ?_
  refine lv_iload_n hx hb dX2_get_37 rfl (lv_at hl 1 rfl) ?_
  refine lv_iload_n hx hb dX2_get_38 rfl (lv_at hl 2 rfl) ?_
  refine rcI (As := [.int x, .int i]) (rest := []) ⟨hx, hb, hml, hown, hts⟩ (c_X2_hasElement l D Y ad t x i hok) (cwV 2 hts gX2_get_X2_hasElement rfl rfl rfl hdX2_hasElement ⟨by dsimp only; omega, by dsimp only; omega⟩) hP hK 0 3 rfl rfl rfl hl.1 rfl (Nat.le_of_ble_eq_true rfl) dX2_get_39 hcs (fun r5 hr5 => ?_)
  replace hr5 : r5 = bI (pHasEl t x i) := hr5
  cases b3 : pHasEl t x i
  · replace hr5 : r5 = 0 := by rw [hr5, b3]; rfl
    subst hr5
    refine lv_if_ne (tgt := 55) hx hb dX2_get_42 (by decide) (fun c7 => absurd rfl c7) (fun _ => ?_)
    exact kT (by simp [pGetT, b1, b2, c6, b3])
  replace hr5 : r5 = 1 := by rw [hr5, b3]; rfl
  subst hr5
  refine lv_if_ne (tgt := 55) hx hb dX2_get_42 (by decide) (fun _ => ?_) (fun c7 => absurd c7 (by decide))
  refine lv_aload_n hx hb dX2_get_55 rfl (lv_at hl 0 rfl) ?_
  refine lv_iload_n hx hb dX2_get_56 rfl (lv_at hl 1 rfl) ?_
  refine lv_iload_n hx hb dX2_get_57 rfl (lv_at hl 2 rfl) ?_
  refine rcI (As := [.int x, .int i]) (rest := []) ⟨hx, hb, hml, hown, hts⟩ (c_X2_elementOf l D Y ad t x i hok) (cwV 2 hts gX2_get_X2_elementOf rfl rfl rfl hdX2_elementOf ⟨by dsimp only; omega, by dsimp only; omega⟩) hP hK 0 3 rfl rfl rfl hl.1 rfl (Nat.le_of_ble_eq_true rfl) dX2_get_58 hcs (fun r6 hr6 => ?_)
  exact kI 61 _ dX2_get_61 (by simp [pGetT, b3]) (by rw [pGet, if_neg n1, if_neg n2, if_neg c6]; exact hr6)
theorem c_X2_get (l : Launch) (D : va_G) (Y : Nat → ClassId) (ad : OA) (t : OS) (x i : Int32) (hok : oOK t) (hnt : pGetT t x i = false) : Met l yX2_get wsX2_get ({ frames := 4, cells := 0, slots := 0, locals := 100 }) (rdPc D Y [.ref (oO ad), .int x, .int i] (oW Y ad t)) (vp_Si (fun ans => ans = pGet t x i)) 0 0 (fun _ => False) := by
  refine rdOf (cc := cX2_get) (maxL := 3) (ret := some .int) (own := RX2) (by decide) rfl rfl (Nat.le_of_ble_eq_true rfl) ?_
  intro p e s m below meth c ls hx hb hr hts hown hml hlocks hP hK hl
  refine w_get hx hb hts hown hml hP hK hl hok (Nat.le_of_ble_eq_true rfl) (Nat.le_of_ble_eq_true rfl) ⟨Nat.zero_le _, Nat.zero_le _⟩ (fun pc v hd _ hv => ?_) (fun h => ?_)
  · exact reI hx hb hr hlocks hd hv
  · rw [hnt] at h; cases h
