/-! makeSave -/
def cNw : CS := ((fun _ => (0, rNew)), 0)
def kS : Option (CA × CS) → CS
  | none => cNw
  | some q => q.2
/-- what makeSave leaves: the picture, what is kept, the kept one -/
def msP (t : OS) (kb : Option (CA × CS)) (g : Nat → Option Nat) (j : Nat) (u : OS × (Nat → Option Nat) × Option (CA × CS)) : Prop := ∃ (ca : CA) (b : CS), u.2.2 = some (ca, b) ∧ u.2.1 = va_up g j (some (cO ca)) ∧ (∀ q, kb = some q → q.1 = ca) ∧ cBecP (kS kb) (oCt t) b ∧ oAddP (oSetSv t (nI j + 1)) u.1 11 (nI j) (nI (rZ (oR t 5))) 0
theorem becP_new {b t u : CS} (h : ∀ k, k < 6 → (cR b k).2 = rNew) (hp : cBecP b t u) : cBecP cNw t u := by
  have e : ∀ k, k < 6 → ∀ w x, rBecP (cR b k) w x → rBecP (cR cNw k) w x := by
    intro k hk w x hx
    have h1 : rN (cR b k) = rN (cR cNw k) := by show (cR b k).2.1 = rNew.1; rw [h k hk]
    have h2 : rF (cR b k) = rF (cR cNw k) := by show (cR b k).2.2.1 = rNew.2.1; rw [h k hk]
    rw [rBecP, h1, h2] at hx
    exact hx
  obtain ⟨a0, a1, a2, a3, a4, a5, a6⟩ := hp
  exact ⟨e 0 (by decide) _ _ a0, e 1 (by decide) _ _ a1, e 2 (by decide) _ _ a2, e 3 (by decide) _ _ a3, e 4 (by decide) _ _ a4, e 5 (by decide) _ _ a5, a6⟩
theorem becC_new {b t : CS} (h : ∀ k, k < 6 → (cR b k).2 = rNew) : cBecC b t = cBecC cNw t := by
  have e : ∀ k, k < 6 → rN (cR b k) = rN (cR cNw k) := by
    intro k hk
    show (cR b k).2.1 = rNew.1
    rw [h k hk]
  rw [cBecC, cBecC, e 0 (by decide), e 1 (by decide), e 2 (by decide), e 3 (by decide), e 4 (by decide), e 5 (by decide)]
theorem up_same {g : Nat → Option Nat} {j : Nat} {v : Option Nat} (h : g j = v) : va_up g j v = g := by
  funext i
  rw [va_up]
  split
  · rename_i e; rw [e, h]
  · rfl
set_option maxHeartbeats 4000000 in
set_option maxRecDepth 100000 in
theorem c_X2_makeSave (l : Launch) (D : va_G) (Y : Nat → ClassId) (ad : OA) (t : OS) (g : Nat → Option Nat) (kb : Option (CA × CS)) (wr : va_W) (j sz : Nat) (hok : oOK t) (hgd : ∀ k, k < 11 → k ≠ 5 → rGd (oR t k)) (hg6 : cGd (oCt t)) (hkg : ∀ q, kb = some q → cGd q.2) (hj : j < 3) (hsv : oSv t = nI j) (hg : g j = kb.map (fun q => cO q.1)) : Met l yX2_makeSave wsX2_makeSave ({ frames := 6, cells := 29, slots := 67 + cBecC (kS kb) (oCt t) + oAddC t, locals := 150 }) (niPc D Y [.ref (oO ad)] (oW Y ad t ++ (kW Y (oKp ad) g ++ (kB Y kb ++ wr))) sz) (va_Qi (fun (ans : Int32) (u : OS × (Nat → Option Nat) × Option (CA × CS)) => ans = oCnt t ∧ msP t kb g j u) (wrB D (va_A (oW Y ad t ++ (kW Y (oKp ad) g ++ (kB Y kb ++ wr))) sz) (fun u : OS × (Nat → Option Nat) × Option (CA × CS) => oW Y ad u.1 ++ (kW Y (oKp ad) u.2.1 ++ (kB Y u.2.2 ++ wr)))) (va_A (oW Y ad t ++ (kW Y (oKp ad) g ++ (kB Y kb ++ wr))) sz)) 29 (67 + cBecC (kS kb) (oCt t) + oAddC t) (va_A (oW Y ad t ++ (kW Y (oKp ad) g ++ (kB Y kb ++ wr))) sz) := by
  refine niOf (Qc := fun A => va_Qi (fun (ans : Int32) (u : OS × (Nat → Option Nat) × Option (CA × CS)) => ans = oCnt t ∧ msP t kb g j u) (wrB D A (fun u : OS × (Nat → Option Nat) × Option (CA × CS) => oW Y ad u.1 ++ (kW Y (oKp ad) u.2.1 ++ (kB Y u.2.2 ++ wr)))) A) (cc := cX2_makeSave) (maxL := 2) (ret := some .int) (own := RX2) (by decide) rfl rfl (Nat.le_of_ble_eq_true rfl) ?_
  intro p e s m below meth c ls A hx hb hr hts hown hml hlocks hin hA hP hD hS hK hN hl
  have iwX2 : ∀ w ∈ u_ws RX2 TX2 10, w ∈ wsX2_makeSave := fun _ h => List.mem_cons_of_mem _ (List.mem_append_left _ (List.mem_append_left _ (List.mem_append_right _ h)))
  have iwX0 : ∀ w ∈ u_ws RX0 TX0 7, w ∈ wsX2_makeSave := fun _ h => List.mem_cons_of_mem _ (List.mem_append_left _ (List.mem_append_right _ h))
  have hl : lv_has ls 2 [(0, .ref (oO ad))] := hl
  have hjc : (nI j).toNatClampNeg = j := nI_clamp (by omega)
  have hin3 : vp_in (nI j) 3 := vp_in_nI hj (by omega)
  have tail : ∀ (ca : CA) (b0 : CS) (H : Heap) (locs : List Loc) (cells slots : Nat) (ls : Array Slot), cells ≤ 13 → slots ≤ 67 → va_P D vwCl (oW Y ad t ++ (kW Y (oKp ad) (va_up g j (some (cO ca))) ++ (cW Y ca b0 ++ wr))) H → va_D A (oW Y ad t ++ (kW Y (oKp ad) (va_up g j (some (cO ca))) ++ (cW Y ca b0 ++ wr))) → va_S A s.heap H locs → lv_has ls 2 [(1, .int (nI j)), (0, .ref (oO ad))] → cGd b0 → cBecC b0 (oCt t) = cBecC (kS kb) (oCt t) → (∀ u, cBecP b0 (oCt t) u → cBecP (kS kb) (oCt t) u) → (∀ q, kb = some q → q.1 = ca) → W p l e ({ frames := 6, cells := 29, slots := 67 + cBecC (kS kb) (oCt t) + oAddC t, locals := 150 }) s m [.ref (oO ad)].toArray below meth c H locs cells slots (MQ below (va_Qi (fun (ans : Int32) (u : OS × (Nat → Option Nat) × Option (CA × CS)) => ans = oCnt t ∧ msP t kb g j u) (wrB D A (fun u : OS × (Nat → Option Nat) × Option (CA × CS) => oW Y ad u.1 ++ (kW Y (oKp ad) u.2.1 ++ (kB Y u.2.2 ++ wr)))) A) [.ref (oO ad)].toArray s 29 (67 + cBecC (kS kb) (oCt t) + oAddC t) A) (F0 m 40 ls []) := by
    intro ca b0 H locs cells slots ls hc13 hs67 hP hD hS hl hgb hbc hbp hca
    refine lv_aload_n hx hb dX2_makeSave_40 rfl (lv_at hl 1 rfl) ?_
    refine va_get (D := D) (ci := 3) (v := .ref (oKp ad)) (C := RX2) (T := TX2) (N := 10) hx hb hts iwX2 hown hK hP 0 rfl rfl 7 (by decide) (hts (.fieldLink RX2 38 "ObjectRows" "kept" "[LObjectRows$Changing;") (by decide +kernel)) (fun _ h9 => h9) rfl dX2_makeSave_41 ?_
    refine lv_iload_n hx hb dX2_makeSave_44 rfl (lv_at hl 0 rfl) ?_
    refine va_aldq hx hb hK hP 26 4 rfl rfl hin3 dX2_makeSave_45 ?_
    have hgv : va_rf (va_up g j (some (cO ca)) (nI j).toNatClampNeg) = .ref (cO ca) := by rw [hjc, va_up_self]; rfl
    rw [hgv]
    refine lv_aload_n hx hb dX2_makeSave_46 rfl (lv_at hl 1 rfl) ?_
    refine va_get (D := D) (ci := 3) (v := .ref (oNow ad)) (C := RX2) (T := TX2) (N := 10) hx hb hts iwX2 hown hK hP 0 rfl rfl 6 (by decide) (hts (.fieldLink RX2 34 "ObjectRows" "now" "LObjectRows$Changing;") (by decide +kernel)) (fun _ h9 => h9) rfl dX2_makeSave_47 ?_
    have hB := kFlip (kSplit ⟨hP, hD⟩)
    refine wcV (wN := fun u : CS => (cW Y ca u ++ cW Y (oC ad) (oCt t)) ++ (oRst Y ad t ++ (kW Y (oKp ad) (va_up g j (some (cO ca))) ++ wr))) (As := [.ref (oNow ad)]) (rest := []) ⟨hx, hb, hml, hown, hts⟩ (c_X0_become l D Y ca (oC ad) b0 (oCt t) _ hgb hg6) (cwV 1 hts gX2_makeSave_X0_become rfl rfl rfl hdX0_become ⟨Nat.le_of_ble_eq_true rfl, Nat.le_of_ble_eq_true rfl⟩) (oPR hB.1) (va_D_left hB.2) hK hS hA 0 1 rfl rfl rfl hl.1 rfl (Nat.le_of_ble_eq_true rfl) dX2_makeSave_50 ⟨by dsimp only; omega, by dsimp only; omega⟩ (fun u H1 hk h1 h2 => frBlock hB.1 hB.2 hk (va_A_in (va_D_left hB.2) hS hA) h1 h2) (fun b1 H locs hb1 hP hD hS => ?_)
    have hJ := kJoin2 ⟨hP, hD⟩
    obtain ⟨hP, hD⟩ := hJ
    refine lv_aload_n hx hb dX2_makeSave_53 rfl (lv_at hl 1 rfl) ?_
    refine lv_iload_n hx hb dX2_makeSave_54 rfl (lv_at hl 0 rfl) ?_
    refine lv_iconst (v := 1) hx hb dX2_makeSave_55 (by decide) ?_
    refine lv_iadd hx hb dX2_makeSave_56 ?_
    refine oFsvR hx hb hts iwX2 hown hK hP hD hS (hts (.fieldLink RX2 54 "ObjectRows" "saves" "I") (by decide +kernel)) dX2_makeSave_57 (fun H locs hP hD hS => ?_)
    refine lv_aload_n hx hb dX2_makeSave_60 rfl (lv_at hl 1 rfl) ?_
    refine lv_bipush (v := 11) hx hb dX2_makeSave_61 (by decide) ?_
    refine lv_iload_n hx hb dX2_makeSave_63 rfl (lv_at hl 0 rfl) ?_
    refine lv_aload_n hx hb dX2_makeSave_64 rfl (lv_at hl 1 rfl) ?_
    refine va_get (D := D) (ci := 3) (v := .ref (oH ad 5)) (C := RX2) (T := TX2) (N := 10) hx hb hts iwX2 hown hK hP 0 rfl rfl 5 (by decide) (hts (.fieldLink RX2 28 "ObjectRows" "bytes" "LObjectRows$Row;") (by decide +kernel)) (fun _ h9 => h9) rfl dX2_makeSave_65 ?_
    refine rcI (As := []) (rest := [.int (nI j), .int 11, .ref (oO ad)]) ⟨hx, hb, hml, hown, hts⟩ (c_X1_size l D Y (oH ad 5) (oR t 5)) (cwV 0 hts gX2_makeSave_X1_size rfl rfl rfl hdX1_size ⟨Nat.le_of_ble_eq_true rfl, Nat.le_of_ble_eq_true rfl⟩) (oWr5 (t := oSetSv t (nI j + 1)) (oPR hP)) hK 0 2 rfl rfl rfl hl.1 rfl (Nat.le_of_ble_eq_true rfl) dX2_makeSave_68 ⟨by dsimp only; omega, by dsimp only; omega⟩ (fun r1 hr1 => ?_)
    obtain rfl : r1 = nI (rZ (oR t 5)) := hr1
    refine lv_iconst (v := 0) hx hb dX2_makeSave_71 (by decide) ?_
    refine wcI (wN := fun u : OS => oW Y ad u ++ (kW Y (oKp ad) (va_up g j (some (cO ca))) ++ (cW Y ca b1 ++ wr))) (As := [.int 11, .int (nI j), .int (nI (rZ (oR t 5))), .int 0]) (rest := []) ⟨hx, hb, hml, hown, hts⟩ (c_X2_addObject l D Y ad (oSetSv t (nI j + 1)) _ 11 (nI j) (nI (rZ (oR t 5))) 0 hgd) (cwV 4 hts gX2_makeSave_X2_addObject rfl rfl rfl hdX2_addObject ⟨Nat.le_of_ble_eq_true rfl, Nat.le_of_ble_eq_true rfl⟩) (oPR hP) (va_D_left hD) hK hS hA 0 3 rfl rfl rfl hl.1 rfl (Nat.le_of_ble_eq_true rfl) dX2_makeSave_72 ⟨by dsimp only; omega, by show _ + oAddC t ≤ _; dsimp only; omega⟩ (fun u H1 hk h1 h2 => frBlock hP hD hk (va_A_in (va_D_left hD) hS hA) h1 h2) (fun r u H locs hu hP hD hS => ?_)
    refine W.widen (k := 29) (n := 67 + cBecC (kS kb) (oCt t) + oAddC t) (by omega) (by show _ + oAddC t ≤ _; omega) ?_
    exact weI (wf := fun u : OS × (Nat → Option Nat) × Option (CA × CS) => oW Y ad u.1 ++ (kW Y (oKp ad) u.2.1 ++ (kB Y u.2.2 ++ wr))) (u, va_up g j (some (cO ca)), some (ca, b1)) hx hb hr hlocks hP hD hS dX2_makeSave_75 ⟨hu.1, ca, b1, rfl, rfl, hca, hbp b1 hb1, hu.2⟩
  refine lv_aload_n hx hb dX2_makeSave_0 rfl (lv_at hl 0 rfl) ?_
  refine va_get (D := D) (ci := 3) (v := .int (oSv t)) (C := RX2) (T := TX2) (N := 10) hx hb hts iwX2 hown hK hP 0 rfl rfl 9 (by decide) (hts (.fieldLink RX2 54 "ObjectRows" "saves" "I") (by decide +kernel)) (fun _ h9 => h9) rfl dX2_makeSave_1 ?_
  refine lv_toE hsv ?_
  refine lv_istore_n (lv' := [(1, .int (nI j)), (0, .ref (oO ad))]) hx hb dX2_makeSave_4 rfl hl (by decide) rfl (fun ls hl => ?_)
  refine lv_iload_n hx hb dX2_makeSave_5 rfl (lv_at hl 0 rfl) ?_
  refine lv_if_lt (tgt := 53) hx hb dX2_makeSave_6 (by decide) (fun c1 => absurd c1 (nI_pos (by omega))) (fun c1 => ?_)
  refine lv_iload_n hx hb dX2_makeSave_9 rfl (lv_at hl 0 rfl) ?_
  refine lv_aload_n hx hb dX2_makeSave_10 rfl (lv_at hl 1 rfl) ?_
  refine va_get (D := D) (ci := 3) (v := .ref (oKp ad)) (C := RX2) (T := TX2) (N := 10) hx hb hts iwX2 hown hK hP 0 rfl rfl 7 (by decide) (hts (.fieldLink RX2 38 "ObjectRows" "kept" "[LObjectRows$Changing;") (by decide +kernel)) (fun _ h9 => h9) rfl dX2_makeSave_11 ?_
  refine va_alen (v := nI 3) hx hb hK hP 26 4 rfl rfl rfl dX2_makeSave_14 ?_
  refine lv_icmp_ge (tgt := 53) hx hb dX2_makeSave_15 (by decide) (fun c2 => absurd ((nI_leI (by omega) (by omega)).mp c2) (by omega)) (fun c2 => ?_)
  refine lv_aload_n hx hb dX2_makeSave_18 rfl (lv_at hl 1 rfl) ?_
  refine va_get (D := D) (ci := 3) (v := .ref (oKp ad)) (C := RX2) (T := TX2) (N := 10) hx hb hts iwX2 hown hK hP 0 rfl rfl 7 (by decide) (hts (.fieldLink RX2 38 "ObjectRows" "kept" "[LObjectRows$Changing;") (by decide +kernel)) (fun _ h9 => h9) rfl dX2_makeSave_19 ?_
  refine lv_iload_n hx hb dX2_makeSave_22 rfl (lv_at hl 0 rfl) ?_
  refine va_aldq hx hb hK hP 26 4 rfl rfl hin3 dX2_makeSave_23 ?_
  cases kb with
  | none =>
    have hgv : va_rf (g (nI j).toNatClampNeg) = .null := by rw [hjc, hg]; rfl
    rw [hgv]
    refine lv_ifnonnullN hx hb dX2_makeSave_24 ?_
    refine lv_aload_n hx hb dX2_makeSave_27 rfl (lv_at hl 1 rfl) ?_
    refine va_get (D := D) (ci := 3) (v := .ref (oKp ad)) (C := RX2) (T := TX2) (N := 10) hx hb hts iwX2 hown hK hP 0 rfl rfl 7 (by decide) (hts (.fieldLink RX2 38 "ObjectRows" "kept" "[LObjectRows$Changing;") (by decide +kernel)) (fun _ h9 => h9) rfl dX2_makeSave_28 ?_
    refine lv_iload_n hx hb dX2_makeSave_31 rfl (lv_at hl 0 rfl) ?_
    refine va_new (ci := 1) (fs := [.null, .null, .null, .null, .null, .null, .int 0]) (C := RX0) (T := TX0) (N := 7) hx hb hts iwX0 tyX0 tyX0_ok hown (hts (.classLink RX2 31 RX0) (by decide +kernel)) (hts (.instantiable RX0 7) (by decide +kernel)) (hts (.initialized RX0) (by decide +kernel)) hK hP hD hS hA rfl (fun j hj => by rcases (show j = 0 ∨ j = 1 ∨ j = 2 ∨ j = 3 ∨ j = 4 ∨ j = 5 ∨ j = 6 by omega) with rfl | rfl | rfl | rfl | rfl | rfl | rfl <;> rfl) (by dsimp only; omega) (by dsimp only; omega) dX2_makeSave_32 (fun nw H hP hD hS => ?_)
    refine lv_dup hx hb dX2_makeSave_35 rfl ?_
    have hB := va_PD_perm ⟨hP, hD⟩ List.perm_append_comm
    refine wcINn (wN := fun u : CA × CS => cW Y u.1 u.2 ++ (oW Y ad t ++ (kW Y (oKp ad) g ++ (kB Y none ++ wr)))) (As := []) (rest := [.ref nw, .int (nI j), .ref (oKp ad)]) ⟨hx, hb, hml, hown, hts⟩ (c_X0_init l D Y nw _) ⟨va_cnB 0 hts gX2_makeSave_X0_init_n33 rfl rfl rfl hN.2.2.1 (hts (.initialized RX0) (by decide +kernel)) hdX0_init ⟨Nat.le_of_ble_eq_true rfl, Nat.le_of_ble_eq_true rfl⟩, rfl, hts (.instanceMethod yX0_init) (by decide +kernel)⟩ (oPR hB.1) (va_D_left hB.2) hK hN hS hA rfl hl.1 rfl (Nat.le_of_ble_eq_true rfl) dX2_makeSave_36 ⟨by dsimp only; omega, by dsimp only; omega⟩ (fun u H1 hk h1 h2 => frBlock hB.1 hB.2 hk (va_A_in (va_D_left hB.2) hS hA) h1 h2) (fun cw H2 locs2 hw hP2 hD2 hS2 => ?_)
    obtain ⟨ca, ct⟩ := cw
    obtain ⟨hnw, hr6, hsto⟩ := hw
    have hnw : cO ca = nw := hnw
    subst hnw
    have hC := va_PD_perm (y := oW Y ad t ++ (kW Y (oKp ad) g ++ (cW Y ca ct ++ wr))) ⟨hP2, hD2⟩ (perm_cnt (fun f hf => by show f (cW Y ca ct ++ (oW Y ad t ++ (kW Y (oKp ad) g ++ wr))) = _; rw [hf, hf, hf, hf (oW Y ad t), hf (kW Y (oKp ad) g), hf (cW Y ca ct)]; omega))
    clear hP hD hB hS
    obtain ⟨hP, hD⟩ := hC
    refine va_astq (r := (RX0, TX0, 7)) (vs := [.ref (cH ca 0), .ref (cH ca 1), .ref (cH ca 2), .ref (cH ca 3), .ref (cH ca 4), .ref (cH ca 5), .int (cSto ct)]) hx hb hK hP hD hS2 26 4 27 1 rfl rfl rfl rfl hin3 dX2_makeSave_39 (fun H locs hP hD hS => ?_)
    have hP : va_P D vwCl (oW Y ad t ++ (kW Y (oKp ad) (va_up g (nI j).toNatClampNeg (some (cO ca))) ++ (cW Y ca ct ++ wr))) H := hP
    have hD : va_D A (oW Y ad t ++ (kW Y (oKp ad) (va_up g (nI j).toNatClampNeg (some (cO ca))) ++ (cW Y ca ct ++ wr))) := hD
    rw [hjc] at hP hD
    exact tail ca ct H locs _ _ ls (by omega) (by omega) hP hD hS hl (fun k hk => ⟨(gd_new (hr6 k hk)).1, (gd_new (hr6 k hk)).2.1⟩) (becC_new hr6) (fun u hu => becP_new hr6 hu) (fun q h => by cases h)
  | some q =>
    have hgv : va_rf (g (nI j).toNatClampNeg) = .ref (cO q.1) := by rw [hjc, hg]; rfl
    rw [hgv]
    refine lv_ifnonnull (tgt := 40) hx hb dX2_makeSave_24 (by decide) ?_
    have hu : va_up g j (some (cO q.1)) = g := up_same hg
    exact tail q.1 q.2 _ _ _ _ ls (by omega) (by omega) (by rw [hu]; exact hP) (by rw [hu]; exact hD) hS hl (hkg q rfl) rfl (fun u hu => hu) (fun q9 h => by cases h; rfl)
