def rPk (r : RV) (b : Nat) (c0 : Int32) (z : Nat) : RV := (rA r, rN r, (fun j => if b ≤ j ∧ j < b + z then c0 + nI (j - b) else rF r j), rZ r)
abbrev pkS (S : OS) (b : Nat) (c0 : Int32) (z : Nat) : OS := oPut S 11 (rPk (oR S 11) b c0 z)
theorem rPk0 (r : RV) (b : Nat) (c0 : Int32) : rPk r b c0 0 = r := by
  have e : (fun j => if b ≤ j ∧ j < b + 0 then c0 + nI (j - b) else rF r j) = rF r := by
    funext j
    rw [if_neg (by omega)]
  rw [rPk, e]
theorem pk0 (S : OS) (b : Nat) (c0 : Int32) : S = pkS S b c0 0 := by
  rw [pkS, rPk0]
  refine Prod.ext ?_ rfl
  funext j
  show S.1 j = if j = 11 then _ else _
  split
  · rename_i h; rw [h]
  · rfl
theorem ok_rPk {r : RV} {b z : Nat} {c0 : Int32} (h : rOK r) (hb : b + z ≤ rN r) : rOK (rPk r b c0 z) := by
  refine ⟨h.1, fun j hj => ?_, h.2.2⟩
  show (if b ≤ j ∧ j < b + z then c0 + nI (j - b) else rF r j) = 0
  rw [if_neg (by have : rN r ≤ j := hj; omega)]
  exact h.2.1 j hj
theorem pkStep {S : OS} {b z : Nat} {c0 : Int32} (hb : b + z < rN (oR S 11)) (hn : rN (oR S 11) < 1000000) : oSet (pkS S b c0 z) 11 (nI b + nI z) (c0 + nI z) = pkS S b c0 (z + 1) := by
  have e : rSet (rPk (oR S 11) b c0 z) (nI b + nI z) (c0 + nI z) = rPk (oR S 11) b c0 (z + 1) := by
    have e2 : rset (rF (rPk (oR S 11) b c0 z)) (rN (oR S 11)) (nI b + nI z) (c0 + nI z) = rF (rPk (oR S 11) b c0 (z + 1)) := by
      rw [nI_add, rset_in hb hn]
      funext j
      show (if j = b + z then c0 + nI z else (if b ≤ j ∧ j < b + z then c0 + nI (j - b) else rF (oR S 11) j)) = (if b ≤ j ∧ j < b + (z + 1) then c0 + nI (j - b) else rF (oR S 11) j)
      by_cases h1 : j = b + z
      · rw [if_pos h1, if_pos (by omega), h1, Nat.add_sub_cancel_left]
      · rw [if_neg h1]
        by_cases h2 : b ≤ j ∧ j < b + z
        · rw [if_pos h2, if_pos (by omega)]
        · rw [if_neg h2, if_neg (by omega)]
    show (rA (oR S 11), rN (oR S 11), rset (rF (rPk (oR S 11) b c0 z)) (rN (oR S 11)) (nI b + nI z) (c0 + nI z), rZ (oR S 11)) = _
    rw [e2]
    rfl
  refine Prod.ext ?_ rfl
  funext j
  show (if j = 11 then rSet (rPk (oR S 11) b c0 z) (nI b + nI z) (c0 + nI z) else if j = 11 then _ else S.1 j) = if j = 11 then _ else S.1 j
  by_cases h : j = 11
  · rw [if_pos h, if_pos h, e]
  · rw [if_neg h, if_neg h, if_neg h]
set_option maxHeartbeats 4000000 in
set_option maxRecDepth 100000 in
theorem c_X2_makePacked (l : Launch) (D : va_G) (Y : Nat → ClassId) (ad : OA) (t : OS) (w0 : Nat) (sz : Nat)  (hok : oOK t) (hgd : ∀ k, k < 11 → k ≠ 5 → rGd (oR t k)) (hel : rN (oR t 11) ≤ 400000 ∧ rZ (oR t 11) + w0 ≤ 400000) : Met l yX2_makePacked wsX2_makePacked ({ frames := 6, cells := 11, slots := rc (rN (oR t 11)) (rZ (oR t 11) + w0) + oAddC t, locals := 150 }) (wrPc D Y [.ref (oO ad), .int (nI w0)] (oW Y ad t) sz) (va_Qi (fun (ans : Int32) (v : OS) => ans = oCnt t ∧ ∃ e, rZerP (oR t 11) e w0 ∧ oAddP (pkS (oPut t 11 e) (rZ (oR t 11)) (oCnt t - nI w0) w0) v 6 0 (nI (rZ (oR t 11))) (nI w0)) (wrB D (va_A (oW Y ad t) sz) (fun u : OS => oW Y ad u)) (va_A (oW Y ad t) sz)) (11) (rc (rN (oR t 11)) (rZ (oR t 11) + w0) + oAddC t) (va_A (oW Y ad t) sz) := by
  refine wrOf (Qc := fun A => va_Qi (fun (ans : Int32) (v : OS) => ans = oCnt t ∧ ∃ e, rZerP (oR t 11) e w0 ∧ oAddP (pkS (oPut t 11 e) (rZ (oR t 11)) (oCnt t - nI w0) w0) v 6 0 (nI (rZ (oR t 11))) (nI w0)) (wrB D A (fun u : OS => oW Y ad u)) A) (cc := cX2_makePacked) (maxL := 5) (ret := (some .int)) (own := RX2) (by decide) rfl rfl (Nat.le_of_ble_eq_true rfl) ?_
  intro p e s m below meth c ls A hx hb hr hts hown hml hlocks hin hA hP hD hS hK hl
  have iwX0 : ∀ w ∈ u_ws RX0 TX0 7, w ∈ wsX2_makePacked := fun _ h => List.mem_cons_of_mem _ (List.mem_append_left _ (List.mem_append_right _ h))
  have iwX2 : ∀ w ∈ u_ws RX2 TX2 10, w ∈ wsX2_makePacked := fun _ h => List.mem_cons_of_mem _ (List.mem_append_left _ (List.mem_append_left _ (List.mem_append_right _ h)))
  have hl : lv_has ls 5 [(0, .ref (oO ad)), (1, .int (nI w0))] := hl
  have hS : va_S A s.heap s.heap [] := hS
  refine lv_aload_n hx hb dX2_makePacked_0 rfl (lv_at hl 0 rfl) ?_
  refine va_get (D := D) (ci := 3) (v := .int (oCnt t)) (C := RX2) (T := TX2) (N := 10) hx hb hts iwX2 hown hK hP 0 rfl rfl 8 (by decide) (hts (.fieldLink RX2 50 "ObjectRows" "count" "I") (by decide +kernel)) (fun _ h9 => h9) rfl dX2_makePacked_1 ?_
  refine lv_iload_n hx hb dX2_makePacked_4 rfl (lv_at hl 1 rfl) ?_
  refine lv_isub hx hb dX2_makePacked_5 ?_
  refine lv_istore_n (lv' := [(2, .int ((oCnt t) - (nI w0))), (0, .ref (oO ad)), (1, .int (nI w0))]) hx hb dX2_makePacked_6 rfl hl (by decide) rfl (fun ls hl => ?_)
  refine lv_aload_n hx hb dX2_makePacked_7 rfl (lv_at hl 1 rfl) ?_
  refine va_get (D := D) (ci := 3) (v := .ref (oNow ad)) (C := RX2) (T := TX2) (N := 10) hx hb hts iwX2 hown hK hP 0 rfl rfl 6 (by decide) (hts (.fieldLink RX2 34 "ObjectRows" "now" "LObjectRows$Changing;") (by decide +kernel)) (fun _ h9 => h9) rfl dX2_makePacked_8 ?_
  refine va_get (D := D) (ci := 1) (v := .ref (oH ad 11)) (C := RX0) (T := TX0) (N := 7) hx hb hts iwX0 hown hK hP 1 rfl rfl 5 (by decide) (hts (.fieldLink RX2 67 "ObjectRows$Changing" "elements" "LObjectRows$Row;") (by decide +kernel)) (fun _ h9 => h9) rfl dX2_makePacked_11 ?_
  refine lv_iload_n hx hb dX2_makePacked_14 rfl (lv_at hl 2 rfl) ?_
  refine wcI (As := [.int (nI w0)]) (rest := []) ⟨hx, hb, hml, hown, hts⟩ (c_X1_addZeros l D Y (oH ad 11) (oR t 11) w0 _ (hok 11 (by decide)) hel.1 hel.2) (cwV 1 hts gX2_makePacked_X1_addZeros rfl rfl rfl hdX1_addZeros ⟨Nat.le_of_ble_eq_true rfl, Nat.le_of_ble_eq_true rfl⟩) (oWr11 (t := t) hP) (oDr11 (t := t) hD) hK hS hA 0 2 rfl rfl rfl hl.1 rfl (Nat.le_of_ble_eq_true rfl) dX2_makePacked_15 ⟨by dsimp only; omega, by dsimp only; omega⟩ (oFr11 (t := t) hP hD hS hA) (fun r2 u1 H locs hu1 hP hD hS => ?_)
  obtain ⟨rfl, hu1⟩ := hu1
  have hac : oAddC (oPut t 11 u1) = oAddC t := rfl
  have hP : va_P D vwCl (oW Y ad (oPut t 11 u1)) H := hP
  have hD : va_D A (oW Y ad (oPut t 11 u1)) := hD
  refine lv_istore_n (lv' := [(3, .int (nI (rZ (oR t 11)))), (2, .int ((oCnt t) - (nI w0))), (0, .ref (oO ad)), (1, .int (nI w0))]) hx hb dX2_makePacked_18 rfl hl (by decide) rfl (fun ls hl => ?_)
  refine lv_iconst (v := 0) hx hb dX2_makePacked_19 (by decide) ?_
  refine lv_istore (lv' := [(4, .int 0), (3, .int (nI (rZ (oR t 11)))), (2, .int ((oCnt t) - (nI w0))), (0, .ref (oO ad)), (1, .int (nI w0))]) hx hb dX2_makePacked_20 hl (by decide) rfl (fun ls hl => ?_)
  have LP3 : ∀ (n q : Nat) (T : OS) (H : Heap) (locs : List Loc) (ls : Array Slot), q + n = w0 → T = pkS (oPut t 11 u1) (rZ (oR t 11)) (oCnt t - nI w0) q → va_P D vwCl (oW Y ad T) H → va_D A (oW Y ad T) → va_S A s.heap H locs → lv_has ls 5 [(4, .int (nI q)), (0, .ref (oO ad)), (1, .int (nI w0)), (2, .int ((oCnt t) - (nI w0))), (3, .int (nI (rZ (oR t 11))))] → W p l e ({ frames := 6, cells := 11, slots := rc (rN (oR t 11)) (rZ (oR t 11) + w0) + oAddC t, locals := 150 }) s m ([.ref (oO ad), .int (nI w0)] : List Value).toArray below meth c H locs (0 + 1) (0 + rc (rN (oR t 11)) (rZ (oR t 11) + w0)) (MQ below (va_Qi (fun (ans : Int32) (v : OS) => ans = oCnt t ∧ ∃ e, rZerP (oR t 11) e w0 ∧ oAddP (pkS (oPut t 11 e) (rZ (oR t 11)) (oCnt t - nI w0) w0) v 6 0 (nI (rZ (oR t 11))) (nI w0)) (wrB D A (fun u : OS => oW Y ad u)) A) ([.ref (oO ad), .int (nI w0)] : List Value).toArray s (11) (rc (rN (oR t 11)) (rZ (oR t 11) + w0) + oAddC t) A) (F0 m 22 ls []) := by
    intro n
    induction n with
    | zero =>
      intro q T H locs ls hz hT hP hD hS hl
      have hzN : w0 = q := by omega
      subst hzN
      subst hT
      have c4 : nI w0 ≤ nI w0 := Int32.le_refl _
      have hac2 : oAddC (pkS (oPut t 11 u1) (rZ (oR t 11)) (oCnt t - nI w0) w0) = oAddC t := rfl
      refine lv_iload hx hb dX2_makePacked_22 (lv_at hl 0 rfl) ?_
      refine lv_iload_n hx hb dX2_makePacked_24 rfl (lv_at hl 2 rfl) ?_
      refine lv_icmp_ge (tgt := 52) hx hb dX2_makePacked_25 (by decide) (fun _ => ?_) (fun c5 => absurd c4 c5)
      refine lv_aload_n hx hb dX2_makePacked_52 rfl (lv_at hl 1 rfl) ?_
      refine lv_bipush (v := 6) hx hb dX2_makePacked_53 (by decide) ?_
      refine lv_iconst (v := 0) hx hb dX2_makePacked_55 (by decide) ?_
      refine lv_iload_n hx hb dX2_makePacked_56 rfl (lv_at hl 4 rfl) ?_
      refine lv_iload_n hx hb dX2_makePacked_57 rfl (lv_at hl 2 rfl) ?_
      refine wcI (As := [.int 6, .int 0, .int (nI (rZ (oR t 11))), .int (nI w0)]) (rest := []) ⟨hx, hb, hml, hown, hts⟩ (c_X2_addObject l D Y ad (pkS (oPut t 11 u1) (rZ (oR t 11)) (oCnt t - nI w0) w0) _ 6 0 (nI (rZ (oR t 11))) (nI w0) (fun k hk h5 => by show rGd (if k = 11 then _ else if k = 11 then _ else _); rw [if_neg (by omega), if_neg (by omega)]; exact hgd k hk h5)) (cwV 4 hts gX2_makePacked_X2_addObject rfl rfl rfl hdX2_addObject ⟨Nat.le_of_ble_eq_true rfl, Nat.le_of_ble_eq_true rfl⟩) hP hD hK hS hA 0 3 rfl rfl rfl hl.1 rfl (Nat.le_of_ble_eq_true rfl) dX2_makePacked_58 ⟨by dsimp only; omega, by dsimp only; omega⟩ (frSelf hD hS hA) (fun r7 u6 H locs hu6 hP hD hS => ?_)
      obtain ⟨rfl, hu6⟩ := hu6
      have hP : va_P D vwCl (oW Y ad u6) H := hP
      have hD : va_D A (oW Y ad u6) := hD
      refine W.widen (k := 11) (n := rc (rN (oR t 11)) (rZ (oR t 11) + w0) + oAddC t) (by omega) (by omega) ?_
      exact weI (wf := fun u : OS => oW Y ad u) (u6) hx hb hr hlocks hP hD hS dX2_makePacked_61 (⟨rfl, u1, hu1, hu6⟩)
    | succ n ih =>
      intro q T H locs ls hz hT hP hD hS hl
      have c8 : ¬ nI w0 ≤ nI q := nI_ge (by omega) (by omega)
      have hokT : oOK T := by rw [hT]; exact ok_put (ok_put hok (ok_zerP (hok 11 (by decide)) hel.1 hel.2 hu1)) (ok_rPk ((ok_put hok (ok_zerP (hok 11 (by decide)) hel.1 hel.2 hu1)) 11 (by decide)) (by have := (rl_ge (n := rN (oR t 11)) (k := rZ (oR t 11) + w0)).2; have := hu1.1; show _ ≤ rN u1; omega))
      refine lv_iload hx hb dX2_makePacked_22 (lv_at hl 0 rfl) ?_
      refine lv_iload_n hx hb dX2_makePacked_24 rfl (lv_at hl 2 rfl) ?_
      refine lv_icmp_ge (tgt := 52) hx hb dX2_makePacked_25 (by decide) (fun c9 => absurd c9 c8) (fun _ => ?_)
      refine lv_aload_n hx hb dX2_makePacked_28 rfl (lv_at hl 1 rfl) ?_
      refine va_get (D := D) (ci := 3) (v := .ref (oNow ad)) (C := RX2) (T := TX2) (N := 10) hx hb hts iwX2 hown hK hP 0 rfl rfl 6 (by decide) (hts (.fieldLink RX2 34 "ObjectRows" "now" "LObjectRows$Changing;") (by decide +kernel)) (fun _ h9 => h9) rfl dX2_makePacked_29 ?_
      refine va_get (D := D) (ci := 1) (v := .ref (oH ad 11)) (C := RX0) (T := TX0) (N := 7) hx hb hts iwX0 hown hK hP 1 rfl rfl 5 (by decide) (hts (.fieldLink RX2 67 "ObjectRows$Changing" "elements" "LObjectRows$Row;") (by decide +kernel)) (fun _ h9 => h9) rfl dX2_makePacked_32 ?_
      refine lv_iload_n hx hb dX2_makePacked_35 rfl (lv_at hl 4 rfl) ?_
      refine lv_iload hx hb dX2_makePacked_36 (lv_at hl 0 rfl) ?_
      refine lv_iadd hx hb dX2_makePacked_38 ?_
      refine lv_iload_n hx hb dX2_makePacked_39 rfl (lv_at hl 3 rfl) ?_
      refine lv_iload hx hb dX2_makePacked_40 (lv_at hl 0 rfl) ?_
      refine lv_iadd hx hb dX2_makePacked_42 ?_
      refine wcV (As := [.int ((nI (rZ (oR t 11))) + (nI q)), .int (((oCnt t) - (nI w0)) + (nI q))]) (rest := []) ⟨hx, hb, hml, hown, hts⟩ (c_X1_set l D Y (oH ad 11) (oR T 11) _ ((nI (rZ (oR t 11))) + (nI q)) (((oCnt t) - (nI w0)) + (nI q)) (hokT 11 (by decide))) (cwV 2 hts gX2_makePacked_X1_set rfl rfl rfl hdX1_set ⟨Nat.le_of_ble_eq_true rfl, Nat.le_of_ble_eq_true rfl⟩) (oWr11 hP) (oDr11 hD) hK hS hA 0 2 rfl rfl rfl hl.1 rfl (Nat.le_of_ble_eq_true rfl) dX2_makePacked_43 ⟨by dsimp only; omega, by dsimp only; omega⟩ (oFr11 hP hD hS hA) (fun u10 H locs hu10 hP hD hS => ?_)
      subst hu10
      have hP : va_P D vwCl (oW Y ad (oSet T 11 ((nI (rZ (oR t 11))) + (nI q)) (((oCnt t) - (nI w0)) + (nI q)))) H := hP
      have hD : va_D A (oW Y ad (oSet T 11 ((nI (rZ (oR t 11))) + (nI q)) (((oCnt t) - (nI w0)) + (nI q)))) := hD
      obtain ⟨z11, ez11⟩ : ∃ y : Int32, y = nI q + 1 := ⟨_, rfl⟩
      refine lv_iinc (v := z11) (lv' := [(4, .int z11), (0, .ref (oO ad)), (1, .int (nI w0)), (2, .int ((oCnt t) - (nI w0))), (3, .int (nI (rZ (oR t 11))))]) hx hb dX2_makePacked_46 hl (k := 0) rfl (by rw [ez11]; rfl) (by decide) rfl (fun ls hl => ?_)
      refine lv_goto (tgt := 22) hx hb dX2_makePacked_49 (by decide) ?_
      obtain rfl : z11 = nI (q + 1) := ez11.trans (nI_1 q)
      exact ih (q + 1) _ _ _ _ (by omega) (by subst hT; exact pkStep (by have := (rl_ge (n := rN (oR t 11)) (k := rZ (oR t 11) + w0)).2; have := hu1.1; show _ < rN u1; omega) (by have := rl_le hel.1 hel.2; have := hu1.1; show rN u1 < _; omega)) hP hD hS (lv_sub hl [0, 1, 2, 3, 4] rfl)
  exact LP3 w0 0 _ _ _ _ (by omega) (pk0 _ _ _) hP hD hS (by first | exact lv_sub hl [0, 3, 4, 2, 1] rfl | (rw [nI_0]; exact lv_sub hl [0, 3, 4, 2, 1] rfl))
theorem hdX2_makePacked : yX2_makePacked.cls = RX2 ∧ yX2_makePacked.cls ≠ "java/lang/invoke/MethodHandle" ∧ yX2_makePacked.cls ≠ "java/lang/invoke/VarHandle" ∧ (parseMethodDescriptor yX2_makePacked.desc).map (fun d => d.parameters.length) = some 1 := by decide +kernel
