/-! Arrays.copyOf and Row.reach -/
theorem cpyF {f : Nat → Int32} {n : Nat} (hn : n < 2 ^ 31) (hf : ∀ j, n ≤ j → f j = 0) : va_cpy f (fun _ => 0) (0 : Int32).toNatClampNeg (0 : Int32).toNatClampNeg (nI n).toNatClampNeg = f := by
  rw [sb_cl0, nI_clamp hn]
  funext j
  unfold va_cpy
  by_cases h : j < n
  · rw [if_pos (by omega)]
    congr 1
    omega
  · rw [if_neg (by omega), hf j (by omega)]
set_option maxHeartbeats 4000000 in
set_option maxRecDepth 100000 in
theorem c_copyOf (l : Launch) (D : va_G) (Y : Nat → ClassId) (a n k : Nat) (f : Nat → Int32) (sz : Nat) (hnk : n < k) (hk : k < 10000000) (hf : ∀ j, n ≤ j → f j = 0) : Met l yJ7_copyOf_59c91 wsJ7_copyOf_59c91 ({ frames := 1, cells := 1, slots := k, locals := 40 }) (wrPc D Y [.ref a, .int (nI k)] [(a, .inl (Y 0, n, .inl f))] sz) (va_Qr (fun _ : Unit => True) (fun _ q t => va_P D vwCl [(a, .inl (Y 0, n, .inl f)), (q, .inl (Y 0, k, .inl f))] t.heap ∧ va_D (va_A [(a, .inl (Y 0, n, .inl f))] sz) [(a, .inl (Y 0, n, .inl f)), (q, .inl (Y 0, k, .inl f))]) (va_A [(a, .inl (Y 0, n, .inl f))] sz)) 1 k (va_A [(a, .inl (Y 0, n, .inl f))] sz) := by
  refine wrOf (Qc := fun A => va_Qr (fun _ : Unit => True) (fun _ q t => va_P D vwCl [(a, .inl (Y 0, n, .inl f)), (q, .inl (Y 0, k, .inl f))] t.heap ∧ va_D A [(a, .inl (Y 0, n, .inl f)), (q, .inl (Y 0, k, .inl f))]) A) (cc := cJ7_copyOf_59c91) (maxL := 3) (ret := some (.array .int)) (own := RJ7) (by decide) rfl rfl (Nat.le_of_ble_eq_true rfl) ?_
  intro p e s m below meth c ls A hx hb hr hts hown hml hlocks hin hA hP hD hS hK hl
  have hl : lv_has ls 3 [(0, .ref a), (1, .int (nI k))] := hl
  refine lv_iload_n hx hb dJ7_copyOf_59c91_0 rfl (lv_at hl 1 rfl) ?_
  refine lv_aload_n hx hb dJ7_copyOf_59c91_1 rfl (lv_at hl 0 rfl) ?_
  refine va_alen (v := nI n) hx hb hK hP 0 0 rfl rfl rfl dJ7_copyOf_59c91_2 ?_
  refine lv_icmp_ne (tgt := 14) hx hb dJ7_copyOf_59c91_3 (by decide) (fun _ => ?_) (fun c1 => absurd ((nI_eq (by omega) (by omega)).mp c1) (by omega))
  refine lv_iload_n hx hb dJ7_copyOf_59c91_14 rfl (lv_at hl 1 rfl) ?_
  refine nwI hx hb (hts (.arrayClass .int) (by decide +kernel)) hK hP hD hS hA k rfl hk (by dsimp only; omega) (by dsimp only; omega) dJ7_copyOf_59c91_15 (fun q H hP hD hS => ?_)
  have hP : va_P D vwCl [(a, .inl (Y 0, n, .inl f)), (q, .inl (Y 0, k, .inl (fun _ => 0)))] H := hP
  have hD : va_D A [(a, .inl (Y 0, n, .inl f)), (q, .inl (Y 0, k, .inl (fun _ => 0)))] := hD
  refine lv_astore_n (lv' := [(2, .ref q), (0, .ref a), (1, .int (nI k))]) hx hb dJ7_copyOf_59c91_17 rfl hl (by decide) rfl (fun ls hl => ?_)
  refine lv_aload_n hx hb dJ7_copyOf_59c91_18 rfl (lv_at hl 1 rfl) ?_
  refine lv_iconst (v := 0) hx hb dJ7_copyOf_59c91_19 (by decide) ?_
  refine lv_aload_n hx hb dJ7_copyOf_59c91_20 rfl (lv_at hl 0 rfl) ?_
  refine lv_iconst (v := 0) hx hb dJ7_copyOf_59c91_21 (by decide) ?_
  refine lv_aload_n hx hb dJ7_copyOf_59c91_22 rfl (lv_at hl 1 rfl) ?_
  refine va_alen (v := nI n) hx hb hK hP 0 0 rfl rfl rfl dJ7_copyOf_59c91_23 ?_
  refine lv_iload_n hx hb dJ7_copyOf_59c91_24 rfl (lv_at hl 2 rfl) ?_
  refine va_mmin hx hb (hml.trans hl.1.symm) hown (hts (.methodLink RJ7 304 Lib.Math.min.name) (by decide +kernel)) (hts (.static Lib.Math.min.name) (by decide +kernel)) (hts (.initialized "java/lang/Math") (by decide +kernel)) (hts (.code Lib.Math.min.name Lib.Math.min.code 2 (some .int)) (by decide +kernel)) (Nat.le_of_ble_eq_true rfl) (Nat.le_of_ble_eq_true rfl) (by dsimp only; omega) (by dsimp only; omega) dJ7_copyOf_59c91_25 ?_
  refine lv_toE (y := nI n) (if_neg (nI_nlt (by omega) (by omega))) ?_
  refine va_copyi hx hb (hml.trans hl.1.symm) hown (hts (.methodLink RJ7 150 arraycopyName) (by decide +kernel)) (hts (.native arraycopyName) (by decide +kernel)) (hts (.static arraycopyName) (by decide +kernel)) (hts (.initialized "java/lang/System") (by decide +kernel)) hK hP hD hS 0 1 0 0 (ty := .int) rfl rfl rfl rfl rfl (by decide) (by decide) (nI_pos (by omega)) (by rw [sb_cl0, nI_clamp (by omega)]; omega) (by rw [sb_cl0, nI_clamp (by omega)]; omega) (fun _ _ => rfl) (Nat.le_of_ble_eq_true rfl) (Nat.le_of_ble_eq_true rfl) dJ7_copyOf_59c91_28 (fun H locs hP hD hS => ?_)
  have hP : va_P D vwCl [(a, .inl (Y 0, n, .inl f)), (q, .inl (Y 0, k, .inl (va_cpy f (fun _ => 0) (0 : Int32).toNatClampNeg (0 : Int32).toNatClampNeg (nI n).toNatClampNeg)))] H := hP
  have hD : va_D A [(a, .inl (Y 0, n, .inl f)), (q, .inl (Y 0, k, .inl (va_cpy f (fun _ => 0) (0 : Int32).toNatClampNeg (0 : Int32).toNatClampNeg (nI n).toNatClampNeg)))] := hD
  rw [cpyF (by omega) hf] at hP hD
  refine lv_aload_n hx hb dJ7_copyOf_59c91_31 rfl (lv_at hl 0 rfl) ?_
  refine W.widen (k := 1) (n := k) (by omega) (by omega) ?_
  exact W.aret hx hb hr (Or.inr ⟨_, rfl⟩) (Or.inr ⟨q, rfl⟩) (fun t ht _ => ⟨⟨(), q, rfl, trivial, by rw [ht]; exact hP, hD⟩, hS.F ht⟩) hS.2.2 dJ7_copyOf_59c91_32 hlocks
theorem hd_copyOf : yJ7_copyOf_59c91.cls ≠ "java/lang/invoke/MethodHandle" ∧ yJ7_copyOf_59c91.cls ≠ "java/lang/invoke/VarHandle" ∧ (parseMethodDescriptor yJ7_copyOf_59c91.desc).map (fun d => d.parameters.length) = some 2 := by decide +kernel
theorem rl_max {n k : Nat} (hn : n ≤ 400000) (hk : k ≤ 400000) (h : n < k) : (if nI k < 2 * nI n then 2 * nI n else nI k) = nI (rl n k) := by
  have e : (2 : Int32) * nI n = nI (2 * n) := by rw [show (2 : Int32) = nI 2 from rfl, pk_mul]
  rw [e, rl, if_pos h]
  by_cases h2 : k < 2 * n
  · rw [if_pos (nI_lt h2 (by omega)), if_pos (by omega)]
  · rw [if_neg (nI_nlt (by omega) (by omega))]
    by_cases h3 : k ≤ 2 * n
    · rw [if_pos h3, show k = 2 * n by omega]
    · rw [if_neg h3]
theorem rl_gt {n k : Nat} (h : n < k) : n < rl n k ∧ k ≤ rl n k := by
  unfold rl
  rw [if_pos h]
  split <;> omega
theorem rl_le {n k : Nat} (hn : n ≤ 400000) (hk : k ≤ 400000) : rl n k ≤ 800000 := by
  unfold rl
  split
  · split <;> omega
  · omega
set_option maxHeartbeats 4000000 in
set_option maxRecDepth 100000 in
theorem c_X1_reach (l : Launch) (D : va_G) (Y : Nat → ClassId) (h : Nat) (r : RV) (k sz : Nat) (hok : rOK r) (hn : rN r ≤ 400000) (hk : k ≤ 400000) : Met l yX1_reach wsX1_reach ({ frames := 2, cells := 1, slots := rc (rN r) k, locals := 62 }) (wrPc D Y [.ref h, .int (nI k)] (rW Y h r) sz) (va_Qv (fun u : RV => rN u = rl (rN r) k ∧ rF u = rF r ∧ rZ u = rZ r) (wrB D (va_A (rW Y h r) sz) (fun u : RV => rW Y h u)) (va_A (rW Y h r) sz)) 1 (rc (rN r) k) (va_A (rW Y h r) sz) := by
  refine wrOf (Qc := fun A => va_Qv (fun u : RV => rN u = rl (rN r) k ∧ rF u = rF r ∧ rZ u = rZ r) (wrB D A (fun u : RV => rW Y h u)) A) (cc := cX1_reach) (maxL := 2) (ret := none) (own := RX1) (by decide) rfl rfl (Nat.le_of_ble_eq_true rfl) ?_
  intro p e s m below meth c ls A hx hb hr hts hown hml hlocks hin hA hP hD hS hK hl
  have iwX1 : ∀ w ∈ u_ws RX1 TX1 2, w ∈ wsX1_reach := fun _ h => List.mem_cons_of_mem _ (List.mem_append_right _ h)
  have hl : lv_has ls 2 [(0, .ref h), (1, .int (nI k))] := hl
  refine lv_iload_n hx hb dX1_reach_0 rfl (lv_at hl 1 rfl) ?_
  refine lv_aload_n hx hb dX1_reach_1 rfl (lv_at hl 0 rfl) ?_
  refine va_get (D := D) (ci := 2) (v := .ref (rA r)) (C := RX1) (T := TX1) (N := 2) hx hb hts iwX1 hown hK hP 0 rfl rfl 0 (by decide) (hts (.fieldLink RX1 9 "ObjectRows$Row" "cells" "[I") (by decide +kernel)) (fun _ h9 => h9) rfl dX1_reach_2 ?_
  refine va_alen (v := nI (rN r)) hx hb hK hP 1 0 rfl rfl rfl dX1_reach_5 ?_
  refine lv_icmp_le (tgt := 31) hx hb dX1_reach_6 (by decide) (fun c1 => ?_) (fun c1 => ?_)
  · have hkn : k ≤ rN r := (nI_leI (by omega) (by omega)).mp c1
    refine W.widen (k := 1) (n := rc (rN r) k) (by omega) (by omega) ?_
    exact weV (wf := fun u : RV => rW Y h u) r hx hb hr hlocks hP hD hS dX1_reach_31 ⟨by rw [rl, if_neg (by omega)], rfl, rfl⟩
  · have hkn : rN r < k := Nat.lt_of_not_le (fun q => c1 (nI_le q (by omega)))
    have hg := rl_gt hkn
    have hg2 := rl_le hn hk
    have hrc : rc (rN r) k = rl (rN r) k := if_pos hkn
    refine lv_aload_n hx hb dX1_reach_9 rfl (lv_at hl 0 rfl) ?_
    refine lv_aload_n hx hb dX1_reach_10 rfl (lv_at hl 0 rfl) ?_
    refine va_get (D := D) (ci := 2) (v := .ref (rA r)) (C := RX1) (T := TX1) (N := 2) hx hb hts iwX1 hown hK hP 0 rfl rfl 0 (by decide) (hts (.fieldLink RX1 9 "ObjectRows$Row" "cells" "[I") (by decide +kernel)) (fun _ h9 => h9) rfl dX1_reach_11 ?_
    refine lv_iload_n hx hb dX1_reach_14 rfl (lv_at hl 1 rfl) ?_
    refine lv_iconst (v := 2) hx hb dX1_reach_15 (by decide) ?_
    refine lv_aload_n hx hb dX1_reach_16 rfl (lv_at hl 0 rfl) ?_
    refine va_get (D := D) (ci := 2) (v := .ref (rA r)) (C := RX1) (T := TX1) (N := 2) hx hb hts iwX1 hown hK hP 0 rfl rfl 0 (by decide) (hts (.fieldLink RX1 9 "ObjectRows$Row" "cells" "[I") (by decide +kernel)) (fun _ h9 => h9) rfl dX1_reach_17 ?_
    refine va_alen (v := nI (rN r)) hx hb hK hP 1 0 rfl rfl rfl dX1_reach_20 ?_
    refine lv_imul hx hb dX1_reach_21 ?_
    refine va_mmax hx hb (hml.trans hl.1.symm) hown (hts (.methodLink RX1 37 Lib.Math.max.name) (by decide +kernel)) (hts (.static Lib.Math.max.name) (by decide +kernel)) (hts (.initialized "java/lang/Math") (by decide +kernel)) (hts (.code Lib.Math.max.name Lib.Math.max.code 2 (some .int)) (by decide +kernel)) (Nat.le_of_ble_eq_true rfl) (Nat.le_of_ble_eq_true rfl) (Nat.zero_le _) (Nat.zero_le _) dX1_reach_22 ?_
    refine lv_toE (y := nI (rl (rN r) k)) (rl_max hn hk hkn) ?_
    have hPc := hP.sub (ws' := [(rA r, .inl (Y 0, rN r, .inl (rF r)))]) [1] rfl
    have hDc := hD.sub (ws' := [(rA r, .inl (Y 0, rN r, .inl (rF r)))]) [1] (by decide) rfl
    have hFc := va_free (wc := [(rA r, .inl (Y 0, rN r, .inl (rF r)))]) hD hS hA [1] rfl
    refine va_callr (va_runS (As := [.ref (rA r), .int (nI (rl (rN r) k))]) (rest := [.ref h]) ⟨hx, hb, hml, hown, hts⟩ (c_copyOf l D Y (rA r) (rN r) (rl (rN r) k) (rF r) s.heap.size hg.1 (by omega) hok.2.1) (va_cwS 2 hts gX1_reach_J7_copyOf_59c91 rfl rfl rfl hd_copyOf ⟨Nat.le_of_ble_eq_true rfl, Nat.le_of_ble_eq_true rfl⟩) ⟨wrPc_blind, fun U hU hWm => ⟨rfl, by rw [hU], by rw [hU]; exact hPc, va_K.moved hWm.alike hK, hDc.weaken (fun _ _ _ _ => trivial)⟩⟩ rfl rfl hl.1 rfl (lv_room (Nat.le_of_ble_eq_true rfl)) dX1_reach_25 ⟨by dsimp only; omega, by dsimp only; omega⟩) hS (fun q _ h => hFc q h) hFc (fun u q t H1 locs ht hvm hw hB hz1 hk1 hS => ?_)
    obtain ⟨hP1, hD1⟩ := hB
    rw [ht] at hP1
    obtain ⟨hP, hD⟩ := va_join (wr := [(h, .inr (2, [.ref (rA r), .int (nI (rZ r))]))]) (w1 := [(rA r, .inl (Y 0, rN r, .inl (rF r))), (q, .inl (Y 0, rl (rN r) k, .inl (rF r)))]) hP hD [1] [0] rfl rfl (by decide) (by decide) hk1 hFc hP1 hD1
    have hP : va_P D vwCl [(h, .inr (2, [.ref (rA r), .int (nI (rZ r))])), (rA r, .inl (Y 0, rN r, .inl (rF r))), (q, .inl (Y 0, rl (rN r) k, .inl (rF r)))] H1 := hP
    have hD : va_D A [(h, .inr (2, [.ref (rA r), .int (nI (rZ r))])), (rA r, .inl (Y 0, rN r, .inl (rF r))), (q, .inl (Y 0, rl (rN r) k, .inl (rF r)))] := hD
    refine va_put (D := D) (ci := 2) (v := .ref q) (ty := .array .int) (C := RX1) (T := TX1) (N := 2) hx hb hts iwX1 tyX1 tyX1_ok nmX1 hown hK hP hD hS 0 rfl rfl 0 (by decide) (hts (.fieldLink RX1 9 "ObjectRows$Row" "cells" "[I") (by decide +kernel)) (fun _ h9 => h9) rfl (by decide +kernel) rfl rfl (Nat.le_of_ble_eq_true rfl) dX1_reach_28 (fun H locs hP hD hS => ?_)
    have hP9 := hP.sub (ws' := rW Y h (q, rl (rN r) k, rF r, rZ r)) [0, 2] rfl
    have hD9 := hD.sub (ws' := rW Y h (q, rl (rN r) k, rF r, rZ r)) [0, 2] (by decide) rfl
    refine W.widen (k := 1) (n := rc (rN r) k) (by omega) (by omega) ?_
    exact weV (wf := fun u : RV => rW Y h u) (q, rl (rN r) k, rF r, rZ r) hx hb hr hlocks hP9 hD9 hS dX1_reach_31 ⟨rfl, rfl, rfl⟩
theorem hdX1_reach : yX1_reach.cls = RX1 ∧ yX1_reach.cls ≠ "java/lang/invoke/MethodHandle" ∧ yX1_reach.cls ≠ "java/lang/invoke/VarHandle" ∧ (parseMethodDescriptor yX1_reach.desc).map (fun d => d.parameters.length) = some 1 := by decide +kernel
