theorem minN {a b : Nat} (ha : a < 2 ^ 31) (hb : b < 2 ^ 31) : (if nI b < nI a then nI b else nI a) = nI (if b < a then b else a) := by
  by_cases h : b < a
  · rw [if_pos (nI_lt h ha), if_pos h]
  · rw [if_neg (nI_nlt (by omega) hb), if_neg h]
def rzero (f : Nat → Int32) (z k : Nat) : Nat → Int32 := fun j => if z ≤ j ∧ j < z + k then 0 else f j
def rZer (u : RV) (z k : Nat) : RV := (rA u, rN u, rzero (rF u) z k, rZ u)
theorem zer0 (u : RV) (z : Nat) : u = rZer u z 0 := by
  have e : rzero (rF u) z 0 = rF u := by
    funext j
    unfold rzero
    rw [if_neg (by omega)]
  rw [rZer, e]
theorem ok_zer {u : RV} {z k : Nat} (h : rOK u) : rOK (rZer u z k) := by
  refine ⟨h.1, fun j hj => ?_, h.2.2⟩
  show rzero (rF u) z k j = 0
  unfold rzero
  split
  · rfl
  · exact h.2.1 j hj
theorem zerStep {u : RV} {z q : Nat} (h : z + q < rN u) (hn : rN u < 1000000) : rSet (rZer u z q) (nI (z + q)) 0 = rZer u z (q + 1) := by
  have e : rset (rzero (rF u) z q) (rN u) (nI (z + q)) 0 = rzero (rF u) z (q + 1) := by
    rw [rset_in h hn]
    funext j
    unfold upd rzero
    by_cases h1 : j = z + q
    · rw [if_pos h1, if_pos (by omega)]
    · rw [if_neg h1]
      by_cases h2 : z ≤ j ∧ j < z + q
      · rw [if_pos h2, if_pos (by omega)]
      · rw [if_neg h2, if_neg (by omega)]
  show (rA u, rN u, rset (rzero (rF u) z q) (rN u) (nI (z + q)) 0, rZ u) = _
  rw [e]
  rfl
set_option maxHeartbeats 4000000 in
set_option maxRecDepth 100000 in
theorem c_X1_addZeros (l : Launch) (D : va_G) (Y : Nat → ClassId) (h : Nat) (r : RV) (k : Nat) (sz : Nat)  (hok : rOK r) (hn : rN r ≤ 400000) (hzk : rZ r + k ≤ 400000) : Met l yX1_addZeros wsX1_addZeros ({ frames := 3, cells := 1, slots := rc (rN r) (rZ r + k), locals := 83 }) (wrPc D Y [.ref h, .int (nI k)] (rW Y h r) sz) (va_Qi (fun (ans : Int32) (u : RV) => ans = nI (rZ r) ∧ rN u = rl (rN r) (rZ r + k) ∧ rF u = rzero (rF r) (rZ r) k ∧ rZ u = rZ r + k) (wrB D (va_A (rW Y h r) sz) (fun u : RV => rW Y h u)) (va_A (rW Y h r) sz)) (1) (rc (rN r) (rZ r + k)) (va_A (rW Y h r) sz) := by
  refine wrOf (Qc := fun A => va_Qi (fun (ans : Int32) (u : RV) => ans = nI (rZ r) ∧ rN u = rl (rN r) (rZ r + k) ∧ rF u = rzero (rF r) (rZ r) k ∧ rZ u = rZ r + k) (wrB D A (fun u : RV => rW Y h u)) A) (cc := cX1_addZeros) (maxL := 4) (ret := (some .int)) (own := RX1) (by decide) rfl rfl (Nat.le_of_ble_eq_true rfl) ?_
  intro p e s m below meth c ls A hx hb hr hts hown hml hlocks hin hA hP hD hS hK hl
  have iwX1 : ∀ w ∈ u_ws RX1 TX1 2, w ∈ wsX1_addZeros := fun _ h => List.mem_cons_of_mem _ (List.mem_append_right _ h)
  have hl : lv_has ls 4 [(0, .ref h), (1, .int (nI k))] := hl
  have hS : va_S A s.heap s.heap [] := hS
  refine lv_aload_n hx hb dX1_addZeros_0 rfl (lv_at hl 0 rfl) ?_
  refine va_get (D := D) (ci := 2) (v := .int (nI (rZ r))) (C := RX1) (T := TX1) (N := 2) hx hb hts iwX1 hown hK hP 0 rfl rfl 1 (by decide) (hts (.fieldLink RX1 13 "ObjectRows$Row" "size" "I") (by decide +kernel)) (fun _ h9 => h9) rfl dX1_addZeros_1 ?_
  refine lv_istore_n (lv' := [(2, .int (nI (rZ r))), (0, .ref h), (1, .int (nI k))]) hx hb dX1_addZeros_4 rfl hl (by decide) rfl (fun ls hl => ?_)
  refine lv_aload_n hx hb dX1_addZeros_5 rfl (lv_at hl 1 rfl) ?_
  refine lv_iload_n hx hb dX1_addZeros_6 rfl (lv_at hl 0 rfl) ?_
  refine lv_iload_n hx hb dX1_addZeros_7 rfl (lv_at hl 2 rfl) ?_
  refine lv_iadd hx hb dX1_addZeros_8 ?_
  refine lv_toE (y := nI (rZ r + k)) (nI_add _ _) ?_
  refine wcV (As := [.int (nI (rZ r + k))]) (rest := []) ⟨hx, hb, hml, hown, hts⟩ (c_X1_reach l D Y h r (rZ r + k) _ hok hn (by omega)) (cwV 1 hts gX1_addZeros_X1_reach rfl rfl rfl hdX1_reach ⟨Nat.le_of_ble_eq_true rfl, Nat.le_of_ble_eq_true rfl⟩) hP hD hK hS hA 0 2 rfl rfl rfl hl.1 rfl (Nat.le_of_ble_eq_true rfl) dX1_addZeros_9 ⟨by dsimp only; omega, by dsimp only; omega⟩ (frSelf hD hS hA) (fun u2 H locs hu2 hP hD hS => ?_)
  have hP : va_P D vwCl (rW Y h u2) H := hP
  have hD : va_D A (rW Y h u2) := hD
  refine lv_iconst (v := 0) hx hb dX1_addZeros_12 (by decide) ?_
  refine lv_istore_n (lv' := [(3, .int 0), (2, .int (nI (rZ r))), (0, .ref h), (1, .int (nI k))]) hx hb dX1_addZeros_13 rfl hl (by decide) rfl (fun ls hl => ?_)
  have LP3 : ∀ (n q : Nat) (T : RV) (H : Heap) (locs : List Loc) (ls : Array Slot), q + n = k → T = rZer u2 (rZ r) q → va_P D vwCl (rW Y h T) H → va_D A (rW Y h T) → va_S A s.heap H locs → lv_has ls 4 [(3, .int (nI q)), (0, .ref h), (1, .int (nI k)), (2, .int (nI (rZ r)))] → W p l e ({ frames := 3, cells := 1, slots := rc (rN r) (rZ r + k), locals := 83 }) s m ([.ref h, .int (nI k)] : List Value).toArray below meth c H locs (0 + 1) (0 + rc (rN r) (rZ r + k)) (MQ below (va_Qi (fun (ans : Int32) (u : RV) => ans = nI (rZ r) ∧ rN u = rl (rN r) (rZ r + k) ∧ rF u = rzero (rF r) (rZ r) k ∧ rZ u = rZ r + k) (wrB D A (fun u : RV => rW Y h u)) A) ([.ref h, .int (nI k)] : List Value).toArray s (1) (rc (rN r) (rZ r + k)) A) (F0 m 14 ls []) := by
    intro n
    induction n with
    | zero =>
      intro q T H locs ls hz hT hP hD hS hl
      have hzN : k = q := by omega
      subst hzN
      subst hT
      have c4 : nI k ≤ nI k := Int32.le_refl _
      refine lv_iload_n hx hb dX1_addZeros_14 rfl (lv_at hl 0 rfl) ?_
      refine lv_iload_n hx hb dX1_addZeros_15 rfl (lv_at hl 2 rfl) ?_
      refine lv_icmp_ge (tgt := 33) hx hb dX1_addZeros_16 (by decide) (fun _ => ?_) (fun c5 => absurd c4 c5)
      refine lv_aload_n hx hb dX1_addZeros_33 rfl (lv_at hl 1 rfl) ?_
      refine lv_iload_n hx hb dX1_addZeros_34 rfl (lv_at hl 3 rfl) ?_
      refine lv_iload_n hx hb dX1_addZeros_35 rfl (lv_at hl 2 rfl) ?_
      refine lv_iadd hx hb dX1_addZeros_36 ?_
      refine rPutZ hx hb hts iwX1 hown hK hP hD hS (hts (.fieldLink RX1 13 "ObjectRows$Row" "size" "I") (by decide +kernel)) (rZ r + k) (nI_add _ _) dX1_addZeros_37 (fun H locs hP hD hS => ?_)
      refine lv_iload_n hx hb dX1_addZeros_40 rfl (lv_at hl 3 rfl) ?_
      refine W.widen (k := 1) (n := rc (rN r) (rZ r + k)) (by omega) (by omega) ?_
      exact weI (wf := fun u : RV => rW Y h u) (rSetZ (rZer u2 (rZ r) k) (rZ r + k)) hx hb hr hlocks hP hD hS dX1_addZeros_41 (⟨rfl, hu2.1, by show rzero (rF u2) (rZ r) k = _; rw [hu2.2.1], rfl⟩)
    | succ n ih =>
      intro q T H locs ls hz hT hP hD hS hl
      have c6 : ¬ nI k ≤ nI q := nI_ge (by omega) (by omega)
      refine lv_iload_n hx hb dX1_addZeros_14 rfl (lv_at hl 0 rfl) ?_
      refine lv_iload_n hx hb dX1_addZeros_15 rfl (lv_at hl 2 rfl) ?_
      refine lv_icmp_ge (tgt := 33) hx hb dX1_addZeros_16 (by decide) (fun c7 => absurd c7 c6) (fun _ => ?_)
      refine lv_aload_n hx hb dX1_addZeros_19 rfl (lv_at hl 1 rfl) ?_
      refine lv_iload_n hx hb dX1_addZeros_20 rfl (lv_at hl 3 rfl) ?_
      refine lv_iload_n hx hb dX1_addZeros_21 rfl (lv_at hl 0 rfl) ?_
      refine lv_iadd hx hb dX1_addZeros_22 ?_
      refine lv_toE (y := nI (rZ r + q)) (nI_add _ _) ?_
      refine lv_iconst (v := 0) hx hb dX1_addZeros_23 (by decide) ?_
      refine wcV (As := [.int (nI (rZ r + q)), .int 0]) (rest := []) ⟨hx, hb, hml, hown, hts⟩ (c_X1_set l D Y h T _ (nI (rZ r + q)) 0 (by rw [hT]; exact ok_zer (ok_reach hok hu2 hn (by omega)))) (cwV 2 hts gX1_addZeros_X1_set rfl rfl rfl hdX1_set ⟨Nat.le_of_ble_eq_true rfl, Nat.le_of_ble_eq_true rfl⟩) hP hD hK hS hA 0 2 rfl rfl rfl hl.1 rfl (Nat.le_of_ble_eq_true rfl) dX1_addZeros_24 ⟨by dsimp only; omega, by dsimp only; omega⟩ (frSelf hD hS hA) (fun u9 H locs hu9 hP hD hS => ?_)
      have hP : va_P D vwCl (rW Y h u9) H := hP
      have hD : va_D A (rW Y h u9) := hD
      obtain ⟨z10, ez10⟩ : ∃ y : Int32, y = nI q + 1 := ⟨_, rfl⟩
      refine lv_iinc (v := z10) (lv' := [(3, .int z10), (0, .ref h), (1, .int (nI k)), (2, .int (nI (rZ r)))]) hx hb dX1_addZeros_27 hl (k := 0) rfl (by rw [ez10]; rfl) (by decide) rfl (fun ls hl => ?_)
      refine lv_goto (tgt := 14) hx hb dX1_addZeros_30 (by decide) ?_
      obtain rfl : z10 = nI (q + 1) := ez10.trans (nI_1 q)
      exact ih (q + 1) _ _ _ _ (by omega) (by rw [hu9]; subst hT; exact zerStep (by rw [hu2.1]; have := (rl_ge (n := rN r) (k := rZ r + k)).2; omega) (by rw [hu2.1]; have := rl_le hn hzk; omega)) hP hD hS (lv_sub hl [0, 1, 2, 3] rfl)
  exact LP3 k 0 _ _ _ _ (by omega) (zer0 _ _) hP hD hS (by first | exact lv_sub hl [0, 2, 3, 1] rfl | (rw [nI_0]; exact lv_sub hl [0, 2, 3, 1] rfl))
theorem hdX1_addZeros : yX1_addZeros.cls = RX1 ∧ yX1_addZeros.cls ≠ "java/lang/invoke/MethodHandle" ∧ yX1_addZeros.cls ≠ "java/lang/invoke/VarHandle" ∧ (parseMethodDescriptor yX1_addZeros.desc).map (fun d => d.parameters.length) = some 1 := by decide +kernel
set_option maxHeartbeats 4000000 in
set_option maxRecDepth 100000 in
theorem c_X1_init (l : Launch) (D : va_G) (Y : Nat → ClassId) (h sz : Nat) : Met l yX1_init wsX1_init ({ frames := 1, cells := 1, slots := 8, locals := 12 }) (wrPc D Y [.ref h] [(h, .inr (2, [.null, .int 0]))] sz) (va_Qv (fun u : RV => u.2 = (8, (fun _ => 0), 0)) (wrB D (va_A [(h, .inr (2, [.null, .int 0]))] sz) (fun u : RV => rW Y h u)) (va_A [(h, .inr (2, [.null, .int 0]))] sz)) 1 8 (va_A [(h, .inr (2, [.null, .int 0]))] sz) := by
  refine wrOf (Qc := fun A => va_Qv (fun u : RV => u.2 = (8, (fun _ => 0), 0)) (wrB D A (fun u : RV => rW Y h u)) A) (cc := cX1_init) (maxL := 1) (ret := none) (own := RX1) (by decide) rfl rfl (Nat.le_of_ble_eq_true rfl) ?_
  intro p e s m below meth c ls A hx hb hr hts hown hml hlocks hin hA hP hD hS hK hl
  have iwX1 : ∀ w ∈ u_ws RX1 TX1 2, w ∈ wsX1_init := fun _ h => List.mem_cons_of_mem _ (List.mem_append_right _ h)
  have hl : lv_has ls 1 [(0, .ref h)] := hl
  refine lv_aload_n hx hb dX1_init_0 rfl (lv_at hl 0 rfl) ?_
  refine W.objInit hx hb hown (hts (.methodLink RX1 1 objectInit) (by decide +kernel)) (hts (.instanceMethod objectInit) (by decide +kernel)) (hts (.code objectInit ⟨#[0xb1]⟩ 1 none) (by decide +kernel)) rfl (by rw [hml]; exact hl.1) rfl dX1_init_1 (Nat.le_of_ble_eq_true rfl) (Nat.le_of_ble_eq_true rfl) ?_
  refine W.eq (g2 := F0 m 4 ls []) rfl ?_
  refine lv_aload_n hx hb dX1_init_4 rfl (lv_at hl 0 rfl) ?_
  refine lv_bipush (v := 8) hx hb dX1_init_5 (by decide) ?_
  refine nwI hx hb (hts (.arrayClass .int) (by decide +kernel)) hK hP hD hS hA 8 (by decide) (by omega) (by dsimp only; omega) (by dsimp only; omega) dX1_init_7 (fun q H hP hD hS => ?_)
  have hP : va_P D vwCl [(h, .inr (2, [.null, .int 0])), (q, .inl (Y 0, 8, .inl (fun _ => 0)))] H := hP
  have hD : va_D A [(h, .inr (2, [.null, .int 0])), (q, .inl (Y 0, 8, .inl (fun _ => 0)))] := hD
  refine va_put (D := D) (ci := 2) (v := .ref q) (ty := .array .int) (C := RX1) (T := TX1) (N := 2) hx hb hts iwX1 tyX1 tyX1_ok nmX1 hown hK hP hD hS 0 rfl rfl 0 (by decide) (hts (.fieldLink RX1 9 "ObjectRows$Row" "cells" "[I") (by decide +kernel)) (fun _ h9 => h9) rfl (by decide +kernel) rfl rfl (Nat.le_of_ble_eq_true rfl) dX1_init_9 (fun H locs hP hD hS => ?_)
  have hP9 := hP.sub (ws' := rW Y h (q, 8, (fun _ => 0), 0)) [0, 1] rfl
  have hD9 := hD.sub (ws' := rW Y h (q, 8, (fun _ => 0), 0)) [0, 1] (by decide) rfl
  exact weV (wf := fun u : RV => rW Y h u) (q, 8, (fun _ => 0), 0) hx hb hr hlocks hP9 hD9 hS dX1_init_12 rfl
def rBec (f g : Nat → Int32) (k : Nat) : Nat → Int32 := fun j => if j < k then f j else g j
theorem cpyB {f g : Nat → Int32} {n : Nat} (hn : n < 2 ^ 31) : va_cpy f g (0 : Int32).toNatClampNeg (0 : Int32).toNatClampNeg (nI n).toNatClampNeg = rBec f g n := by
  rw [sb_cl0, nI_clamp hn]
  funext j
  unfold va_cpy rBec
  by_cases h : j < n
  · rw [if_pos (by omega), if_pos h]
    congr 1
    omega
  · rw [if_neg (by omega), if_neg h]
set_option maxHeartbeats 4000000 in
set_option maxRecDepth 100000 in
theorem c_X1_become (l : Launch) (D : va_G) (Y : Nat → ClassId) (h h2 : Nat) (r r2 : RV) (sz : Nat) (hok : rOK r) (hok2 : rOK r2) (hn : rN r ≤ 400000) (hn2 : rN r2 ≤ 400000) : Met l yX1_become wsX1_become ({ frames := 3, cells := 1, slots := rc (rN r) (rZ r2), locals := 83 }) (wrPc D Y [.ref h, .ref h2] (rW Y h r ++ rW Y h2 r2) sz) (va_Qv (fun u : RV => rN u = rl (rN r) (rZ r2) ∧ rF u = rBec (rF r2) (rF r) (rZ r2) ∧ rZ u = rZ r2) (wrB D (va_A (rW Y h r ++ rW Y h2 r2) sz) (fun u : RV => rW Y h u ++ rW Y h2 r2)) (va_A (rW Y h r ++ rW Y h2 r2) sz)) 1 (rc (rN r) (rZ r2)) (va_A (rW Y h r ++ rW Y h2 r2) sz) := by
  refine wrOf (Qc := fun A => va_Qv (fun u : RV => rN u = rl (rN r) (rZ r2) ∧ rF u = rBec (rF r2) (rF r) (rZ r2) ∧ rZ u = rZ r2) (wrB D A (fun u : RV => rW Y h u ++ rW Y h2 r2)) A) (cc := cX1_become) (maxL := 2) (ret := none) (own := RX1) (by decide) rfl rfl (Nat.le_of_ble_eq_true rfl) ?_
  intro p e s m below meth c ls A hx hb hr hts hown hml hlocks hin hA hP hD hS hK hl
  have iwX1 : ∀ w ∈ u_ws RX1 TX1 2, w ∈ wsX1_become := fun _ h => List.mem_cons_of_mem _ (List.mem_append_right _ h)
  have hl : lv_has ls 2 [(0, .ref h), (1, .ref h2)] := hl
  have hz2 : rZ r2 ≤ rN r2 := hok2.2.2
  refine lv_aload_n hx hb dX1_become_0 rfl (lv_at hl 0 rfl) ?_
  refine lv_aload_n hx hb dX1_become_1 rfl (lv_at hl 1 rfl) ?_
  refine va_get (D := D) (ci := 2) (v := .int (nI (rZ r2))) (C := RX1) (T := TX1) (N := 2) hx hb hts iwX1 hown hK hP 2 rfl rfl 1 (by decide) (hts (.fieldLink RX1 13 "ObjectRows$Row" "size" "I") (by decide +kernel)) (fun _ h9 => h9) rfl dX1_become_2 ?_
  have hPc := hP.sub (ws' := rW Y h r) [0, 1] rfl
  have hDc := hD.sub (ws' := rW Y h r) [0, 1] (by decide) rfl
  have hFc := va_free (wc := rW Y h r) hD hS hA [0, 1] rfl
  refine wcV (wN := fun u : RV => rW Y h u ++ rW Y h2 r2) (As := [.int (nI (rZ r2))]) (rest := []) ⟨hx, hb, hml, hown, hts⟩ (c_X1_reach l D Y h r (rZ r2) _ hok hn (by omega)) (cwV 1 hts gX1_become_X1_reach rfl rfl rfl hdX1_reach ⟨Nat.le_of_ble_eq_true rfl, Nat.le_of_ble_eq_true rfl⟩) hPc hDc hK hS hA 0 2 rfl rfl rfl hl.1 rfl (Nat.le_of_ble_eq_true rfl) dX1_become_5 ⟨by dsimp only; omega, by dsimp only; omega⟩ (fun u H1 hk h1 h2_ => ?_) (fun u H locs hu hP hD hS => ?_)
  · obtain ⟨a1, a2⟩ := va_join (wr := rW Y h2 r2) (w1 := rW Y h u) hP hD [0, 1] [2, 3] rfl rfl (by decide) (by decide) hk hFc h1 h2_
    exact ⟨a1.sub [2, 3, 0, 1] rfl, a2.sub [2, 3, 0, 1] (by decide) rfl⟩
  · obtain ⟨hu1, hu2, hu3⟩ := hu
    have hge := (rl_ge (n := rN r) (k := rZ r2)).2
    have hle := rl_le hn (show rZ r2 ≤ 400000 by omega)
    have hP : va_P D vwCl [(h, .inr (2, [.ref (rA u), .int (nI (rZ u))])), (rA u, .inl (Y 0, rN u, .inl (rF u))), (h2, .inr (2, [.ref (rA r2), .int (nI (rZ r2))])), (rA r2, .inl (Y 0, rN r2, .inl (rF r2)))] H := hP
    have hD : va_D A [(h, .inr (2, [.ref (rA u), .int (nI (rZ u))])), (rA u, .inl (Y 0, rN u, .inl (rF u))), (h2, .inr (2, [.ref (rA r2), .int (nI (rZ r2))])), (rA r2, .inl (Y 0, rN r2, .inl (rF r2)))] := hD
    refine lv_aload_n hx hb dX1_become_8 rfl (lv_at hl 0 rfl) ?_
    refine lv_aload_n hx hb dX1_become_9 rfl (lv_at hl 1 rfl) ?_
    refine va_get (D := D) (ci := 2) (v := .int (nI (rZ r2))) (C := RX1) (T := TX1) (N := 2) hx hb hts iwX1 hown hK hP 2 rfl rfl 1 (by decide) (hts (.fieldLink RX1 13 "ObjectRows$Row" "size" "I") (by decide +kernel)) (fun _ h9 => h9) rfl dX1_become_10 ?_
    refine lv_aload_n hx hb dX1_become_13 rfl (lv_at hl 0 rfl) ?_
    refine va_get (D := D) (ci := 2) (v := .ref (rA u)) (C := RX1) (T := TX1) (N := 2) hx hb hts iwX1 hown hK hP 0 rfl rfl 0 (by decide) (hts (.fieldLink RX1 9 "ObjectRows$Row" "cells" "[I") (by decide +kernel)) (fun _ h9 => h9) rfl dX1_become_14 ?_
    refine va_alen (v := nI (rN u)) hx hb hK hP 1 0 rfl rfl rfl dX1_become_17 ?_
    refine lv_aload_n hx hb dX1_become_18 rfl (lv_at hl 1 rfl) ?_
    refine va_get (D := D) (ci := 2) (v := .ref (rA r2)) (C := RX1) (T := TX1) (N := 2) hx hb hts iwX1 hown hK hP 2 rfl rfl 0 (by decide) (hts (.fieldLink RX1 9 "ObjectRows$Row" "cells" "[I") (by decide +kernel)) (fun _ h9 => h9) rfl dX1_become_19 ?_
    refine va_alen (v := nI (rN r2)) hx hb hK hP 3 0 rfl rfl rfl dX1_become_22 ?_
    refine va_mmin hx hb (hml.trans hl.1.symm) hown (hts (.methodLink RX1 25 Lib.Math.min.name) (by decide +kernel)) (hts (.static Lib.Math.min.name) (by decide +kernel)) (hts (.initialized "java/lang/Math") (by decide +kernel)) (hts (.code Lib.Math.min.name Lib.Math.min.code 2 (some .int)) (by decide +kernel)) (Nat.le_of_ble_eq_true rfl) (Nat.le_of_ble_eq_true rfl) (by dsimp only; omega) (by dsimp only; omega) dX1_become_23 ?_
    refine lv_toE (y := nI (if rN r2 < rN u then rN r2 else rN u)) (minN (by omega) (by omega)) ?_
    refine va_mmin hx hb (hml.trans hl.1.symm) hown (hts (.methodLink RX1 25 Lib.Math.min.name) (by decide +kernel)) (hts (.static Lib.Math.min.name) (by decide +kernel)) (hts (.initialized "java/lang/Math") (by decide +kernel)) (hts (.code Lib.Math.min.name Lib.Math.min.code 2 (some .int)) (by decide +kernel)) (Nat.le_of_ble_eq_true rfl) (Nat.le_of_ble_eq_true rfl) (by dsimp only; omega) (by dsimp only; omega) dX1_become_26 ?_
    refine lv_toE (y := nI (rZ r2)) (if_neg (nI_nlt (by split <;> omega) (by split <;> omega))) ?_
    refine va_put (D := D) (ci := 2) (v := .int (nI (rZ r2))) (ty := .int) (C := RX1) (T := TX1) (N := 2) hx hb hts iwX1 tyX1 tyX1_ok nmX1 hown hK hP hD hS 0 rfl rfl 1 (by decide) (hts (.fieldLink RX1 13 "ObjectRows$Row" "size" "I") (by decide +kernel)) (fun _ h9 => h9) rfl (by decide +kernel) rfl rfl (Nat.le_of_ble_eq_true rfl) dX1_become_29 (fun H locs hP hD hS => ?_)
    have hP : va_P D vwCl [(h, .inr (2, [.ref (rA u), .int (nI (rZ r2))])), (rA u, .inl (Y 0, rN u, .inl (rF u))), (h2, .inr (2, [.ref (rA r2), .int (nI (rZ r2))])), (rA r2, .inl (Y 0, rN r2, .inl (rF r2)))] H := hP
    have hD : va_D A [(h, .inr (2, [.ref (rA u), .int (nI (rZ r2))])), (rA u, .inl (Y 0, rN u, .inl (rF u))), (h2, .inr (2, [.ref (rA r2), .int (nI (rZ r2))])), (rA r2, .inl (Y 0, rN r2, .inl (rF r2)))] := hD
    refine lv_aload_n hx hb dX1_become_32 rfl (lv_at hl 1 rfl) ?_
    refine va_get (D := D) (ci := 2) (v := .ref (rA r2)) (C := RX1) (T := TX1) (N := 2) hx hb hts iwX1 hown hK hP 2 rfl rfl 0 (by decide) (hts (.fieldLink RX1 9 "ObjectRows$Row" "cells" "[I") (by decide +kernel)) (fun _ h9 => h9) rfl dX1_become_33 ?_
    refine lv_iconst (v := 0) hx hb dX1_become_36 (by decide) ?_
    refine lv_aload_n hx hb dX1_become_37 rfl (lv_at hl 0 rfl) ?_
    refine va_get (D := D) (ci := 2) (v := .ref (rA u)) (C := RX1) (T := TX1) (N := 2) hx hb hts iwX1 hown hK hP 0 rfl rfl 0 (by decide) (hts (.fieldLink RX1 9 "ObjectRows$Row" "cells" "[I") (by decide +kernel)) (fun _ h9 => h9) rfl dX1_become_38 ?_
    refine lv_iconst (v := 0) hx hb dX1_become_41 (by decide) ?_
    refine lv_aload_n hx hb dX1_become_42 rfl (lv_at hl 0 rfl) ?_
    refine va_get (D := D) (ci := 2) (v := .int (nI (rZ r2))) (C := RX1) (T := TX1) (N := 2) hx hb hts iwX1 hown hK hP 0 rfl rfl 1 (by decide) (hts (.fieldLink RX1 13 "ObjectRows$Row" "size" "I") (by decide +kernel)) (fun _ h9 => h9) rfl dX1_become_43 ?_
    refine va_copyi hx hb (hml.trans hl.1.symm) hown (hts (.methodLink RX1 31 arraycopyName) (by decide +kernel)) (hts (.native arraycopyName) (by decide +kernel)) (hts (.static arraycopyName) (by decide +kernel)) (hts (.initialized "java/lang/System") (by decide +kernel)) hK hP hD hS 3 1 0 0 (ty := .int) rfl rfl rfl rfl rfl (by decide) (by decide) (nI_pos (by omega)) (by rw [sb_cl0, nI_clamp (by omega)]; omega) (by rw [sb_cl0, nI_clamp (by omega)]; omega) (fun _ _ => rfl) (Nat.le_of_ble_eq_true rfl) (Nat.le_of_ble_eq_true rfl) dX1_become_46 (fun H locs hP hD hS => ?_)
    have hP9 := hP.sub (ws' := rW Y h (rA u, rN u, va_cpy (rF r2) (rF u) (0 : Int32).toNatClampNeg (0 : Int32).toNatClampNeg (nI (rZ r2)).toNatClampNeg, rZ r2) ++ rW Y h2 r2) [0, 1, 2, 3] rfl
    have hD9 := hD.sub (ws' := rW Y h (rA u, rN u, va_cpy (rF r2) (rF u) (0 : Int32).toNatClampNeg (0 : Int32).toNatClampNeg (nI (rZ r2)).toNatClampNeg, rZ r2) ++ rW Y h2 r2) [0, 1, 2, 3] (by decide) rfl
    refine W.widen (k := 1) (n := rc (rN r) (rZ r2)) (by omega) (by omega) ?_
    exact weV (wf := fun u : RV => rW Y h u ++ rW Y h2 r2) (rA u, rN u, va_cpy (rF r2) (rF u) (0 : Int32).toNatClampNeg (0 : Int32).toNatClampNeg (nI (rZ r2)).toNatClampNeg, rZ r2) hx hb hr hlocks hP9 hD9 hS dX1_become_49 ⟨hu1, (cpyB (by omega)).trans (by rw [hu2]), rfl⟩
theorem hdX1_become : yX1_become.cls = RX1 ∧ yX1_become.cls ≠ "java/lang/invoke/MethodHandle" ∧ yX1_become.cls ≠ "java/lang/invoke/VarHandle" ∧ (parseMethodDescriptor yX1_become.desc).map (fun d => d.parameters.length) = some 1 := by decide +kernel
