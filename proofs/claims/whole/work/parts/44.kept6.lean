/-! make -/
def mkE (t : OS) (k z : Int32) : Int32 := if k < 0 then -1 else if ¬ k ≤ 11 then -1 else if pFits t k z = false then -2 else if 100 ≤ oCnt t then -4 else if k = 11 ∧ ¬ oSv t < 3 then -4 else 0
def mkT (t : OS) (k z : Int32) : OS := oSetSto t (oSto t + z * pPlace k)
def mkO (T : OS) (k z : Int32) (v : OS) : Prop :=
  (k = 4 ∧ ∃ e, rZerP (oR T 5) e z.toNatClampNeg ∧ oAddP (oPut T 5 e) v 4 0 (nI (rZ (oR T 5))) z) ∨
  (k = 5 ∧ ∃ e, rZerP (oR T 11) e z.toNatClampNeg ∧ oAddP (oPut T 11 e) v 5 0 (nI (rZ (oR T 11))) z) ∨
  (k = 6 ∧ ∃ e, rZerP (oR T 11) e z.toNatClampNeg ∧ oAddP (pkS (oPut T 11 e) (rZ (oR T 11)) (oCnt T - z) z.toNatClampNeg) v 6 0 (nI (rZ (oR T 11))) z) ∨
  (k = 7 ∧ ∃ e u, rZerP (oR T 11) e 64 ∧ oAddP (oPut T 11 e) u 7 0 (nI (rZ (oR T 11))) 0 ∧ v = oSet u 8 (oCnt T) z) ∨
  (k ≠ 4 ∧ k ≠ 5 ∧ k ≠ 6 ∧ k ≠ 7 ∧ oAddP T v k z 0 0)
def mkP (t : OS) (kb : Option (CA × CS)) (g : Nat → Option Nat) (j : Nat) (k z ans : Int32) (u : OS × (Nat → Option Nat) × Option (CA × CS)) : Prop := (ans = mkE t k z ∧ ans ≠ 0 ∧ u = (t, g, kb)) ∨ (mkE t k z = 0 ∧ ans = oCnt t ∧ ((k = 11 ∧ msP (mkT t k z) kb g j u) ∨ (k ≠ 11 ∧ u.2 = (g, kb) ∧ mkO (mkT t k z) k z u.1)))
/-- the slots that it takes -/
def mkC (t : OS) (kb : Option (CA × CS)) (k z : Int32) : Nat := if mkE t k z = 0 then (if k = 4 then rc (rN (oR t 5)) (rZ (oR t 5) + z.toNatClampNeg) else if k = 5 ∨ k = 6 then rc (rN (oR t 11)) (rZ (oR t 11) + z.toNatClampNeg) else if k = 7 then rc (rN (oR t 11)) (rZ (oR t 11) + 64) else if k = 11 then 67 + cBecC (kS kb) (oCt t) else 0) + oAddC t else 0
theorem within_n {z m : Int32} {n : Nat} (hm : m.toInt = n) (h : pWithin z m = true) : ∃ w, w ≤ n ∧ z = nI w := by
  rw [pWithin, Bool.and_eq_true, Bool.not_eq_true', Bool.not_eq_true', decide_eq_false_iff_not, decide_eq_false_iff_not] at h
  exact nI_of2 hm h.1 (Int32.not_lt.mp h.2)
theorem fits6 {t : OS} {z : Int32} (h : pFits t 6 z = true) : ∃ w, w ≤ 32 ∧ z = nI w := by
  have h : pWithin z (if oCnt t < 32 then oCnt t else 32) = true := h
  split at h
  · rename_i h1
    rw [pWithin, Bool.and_eq_true, Bool.not_eq_true', Bool.not_eq_true', decide_eq_false_iff_not, decide_eq_false_iff_not] at h
    exact nI_of2 (M := 32) rfl h.1 (Int32.le_of_lt (Int32.lt_of_le_of_lt (Int32.not_lt.mp h.2) h1))
  · exact within_n rfl h
section WrCall
variable {p : Program} {l : Launch} {e : Env} {R : Room} {s : State} {m : MethodId} {args : Array Value} {below : List Frame} {meth : Method} {c : Code} {H : Heap} {locs : List Loc} {cells slots : Nat} {Q : State → Prop}
variable {y : MethodName} {bytes cc : ByteArray} {maxL nL n index mc ms : Nat} {ret : Option FieldType} {ws : List Cond} {rm : Room} {Ts : List Cond} {own C : String} {b : Addr} {As rest st0 : List Value} {pc : Nat} {ls : Array Slot} {D : va_G} {Y : Nat → ClassId} {wc : va_W} {H0 : Heap} {A : Nat → Prop} {S : Type} {wf wN : S → va_W}
theorem wcIn {post : Int32 → S → Prop} (S0 : CallFix p m c cc nL s args Ts own) (hM : Met l y ws rm (niPc D Y (.ref b :: As) wc H.size) (va_Qi post (wrB D (va_A wc H.size) wf) (va_A wc H.size)) mc ms (va_A wc H.size)) (cw : CallW R s args own C index y bytes maxL ret ws rm mc ms n) (hPc : va_P D vwCl wc H) (hDc : va_D A wc) (hK : va_K D vwCl (tyA Y) s) (hN : nestW s) (hS : va_S A H0 H locs) (hA : ∀ q, H0.size ≤ q → A q) (q0 ci : Nat) {T : u_T} {N : Nat} {fs : List Value} (he : wc[q0]? = some (b, .inr (ci, fs))) (hc : vwCl[ci]? = some (C, T, N)) (hn : As.length = n) (hsize : ls.size = nL) (hstack : st0 = As.reverse ++ .ref b :: rest) (hW : (rest.map fun v => v.category).sum ≤ 8) (hdg : decode cc pc = .ok (.invokevirtual index, 3)) (hf : cells + mc ≤ R.cells ∧ slots + ms ≤ R.slots)
    (hfr : ∀ (u : S) (H1 : Heap), (∀ q : Nat, q < H.size → ¬ va_A wc H.size q → H1[q]? = H[q]?) → va_P D vwCl (wf u) H1 → va_D (va_A wc H.size) (wf u) → va_P D vwCl (wN u) H1 ∧ va_D A (wN u))
    (kk : ∀ (r : Int32) (u : S) (H1 : Heap) (locs1 : List Loc), post r u → va_P D vwCl (wN u) H1 → va_D A (wN u) → va_S A H0 H1 locs1 → W p l e R s m args below meth c H1 locs1 (cells + mc) (slots + ms) Q (F0 m (pc + 3) ls (.int r :: rest))) : W p l e R s m args below meth c H locs cells slots Q (F0 m pc ls st0) := by
  have hFc := va_A_in hDc hS hA
  refine va_calli (va_runV (As := As) (rest := rest) S0 hM cw ⟨niPc_blind, va_recv hK hPc hc he, fun U hU hWm => ⟨rfl, by rw [hU], by rw [hU]; exact hPc, va_K.moved hWm.alike hK, hDc.weaken (fun _ _ _ _ => trivial), hN.warm hWm⟩⟩ rfl hn hsize hstack (lv_room hW) hdg hf) hS (fun q _ h => hFc q h) hFc (fun r u t H1 locs1 ht hvm hw hB hz1 hk1 hS1 => ?_)
  obtain ⟨h1, h2⟩ := hB
  rw [ht] at h1
  obtain ⟨a1, a2⟩ := hfr u H1 hk1 h1 h2
  exact kk r u H1 locs1 hw a1 a2 hS1
end WrCall
theorem hdX2_makeSave : yX2_makeSave.cls = RX2 ∧ yX2_makeSave.cls ≠ "java/lang/invoke/MethodHandle" ∧ yX2_makeSave.cls ≠ "java/lang/invoke/VarHandle" ∧ (parseMethodDescriptor yX2_makeSave.desc).map (fun d => d.parameters.length) = some 0 := by decide +kernel
set_option maxHeartbeats 4000000 in
set_option maxRecDepth 100000 in
theorem c_X2_make (l : Launch) (D : va_G) (Y : Nat → ClassId) (ad : OA) (t : OS) (g : Nat → Option Nat) (kb : Option (CA × CS)) (wr : va_W) (k z : Int32) (j sz : Nat) (hok : oOK t) (hgd : ∀ k, k < 11 → k ≠ 5 → rGd (oR t k)) (h5 : rN (oR t 5) ≤ 400000 ∧ rZ (oR t 5) + 64 ≤ 400000) (h11 : rN (oR t 11) ≤ 400000 ∧ rZ (oR t 11) + 64 ≤ 400000) (hg6 : cGd (oCt t)) (hkg : ∀ q, kb = some q → cGd q.2) (hjk : k = 11 → oSv t < 3 → j < 3 ∧ oSv t = nI j ∧ g j = kb.map (fun q => cO q.1)) : Met l yX2_make wsX2_make ({ frames := 7, cells := 29, slots := mkC t kb k z, locals := 174 }) (niPc D Y [.ref (oO ad), .int k, .int z] (oW Y ad t ++ (kW Y (oKp ad) g ++ (kB Y kb ++ wr))) sz) (va_Qi (fun (ans : Int32) (u : OS × (Nat → Option Nat) × Option (CA × CS)) => mkP t kb g j k z ans u) (wrB D (va_A (oW Y ad t ++ (kW Y (oKp ad) g ++ (kB Y kb ++ wr))) sz) (fun u : OS × (Nat → Option Nat) × Option (CA × CS) => oW Y ad u.1 ++ (kW Y (oKp ad) u.2.1 ++ (kB Y u.2.2 ++ wr)))) (va_A (oW Y ad t ++ (kW Y (oKp ad) g ++ (kB Y kb ++ wr))) sz)) 29 (mkC t kb k z) (va_A (oW Y ad t ++ (kW Y (oKp ad) g ++ (kB Y kb ++ wr))) sz) := by
  refine niOf (Qc := fun A => va_Qi (fun (ans : Int32) (u : OS × (Nat → Option Nat) × Option (CA × CS)) => mkP t kb g j k z ans u) (wrB D A (fun u : OS × (Nat → Option Nat) × Option (CA × CS) => oW Y ad u.1 ++ (kW Y (oKp ad) u.2.1 ++ (kB Y u.2.2 ++ wr)))) A) (cc := cX2_make) (maxL := 3) (ret := some .int) (own := RX2) (by decide) rfl rfl (Nat.le_of_ble_eq_true rfl) ?_
  intro p e s m below meth c ls A hx hb hr hts hown hml hlocks hin hA hP hD hS hK hN hl
  have iwX2 : ∀ w ∈ u_ws RX2 TX2 10, w ∈ wsX2_make := fun _ h => List.mem_cons_of_mem _ (List.mem_append_left _ (List.mem_append_left _ (List.mem_append_right _ h)))
  have iwX0 : ∀ w ∈ u_ws RX0 TX0 7, w ∈ wsX2_make := fun _ h => List.mem_cons_of_mem _ (List.mem_append_left _ (List.mem_append_right _ h))
  have hl : lv_has ls 3 [(0, .ref (oO ad)), (1, .int k), (2, .int z)] := hl
  have bad : ∀ (v : Int32) (pc : Nat), decode cX2_make pc = .ok (.ireturn, 1) → mkE t k z = v → v ≠ 0 → W p l e ({ frames := 7, cells := 29, slots := mkC t kb k z, locals := 174 }) s m [.ref (oO ad), .int k, .int z].toArray below meth c s.heap [] 0 0 (MQ below (va_Qi (fun (ans : Int32) (u : OS × (Nat → Option Nat) × Option (CA × CS)) => mkP t kb g j k z ans u) (wrB D A (fun u : OS × (Nat → Option Nat) × Option (CA × CS) => oW Y ad u.1 ++ (kW Y (oKp ad) u.2.1 ++ (kB Y u.2.2 ++ wr)))) A) [.ref (oO ad), .int k, .int z].toArray s 29 (mkC t kb k z) A) (F0 m pc ls [.int v]) := by
    intro v pc hd hv h0
    refine W.widen (k := 29) (n := mkC t kb k z) (by omega) (by omega) ?_
    exact weI (wf := fun u : OS × (Nat → Option Nat) × Option (CA × CS) => oW Y ad u.1 ++ (kW Y (oKp ad) u.2.1 ++ (kB Y u.2.2 ++ wr))) (t, g, kb) hx hb hr hlocks hP hD hS hd (Or.inl ⟨hv.symm, h0, rfl⟩)
  have tail : mkE t k z = 0 → W p l e ({ frames := 7, cells := 29, slots := mkC t kb k z, locals := 174 }) s m [.ref (oO ad), .int k, .int z].toArray below meth c s.heap [] 0 0 (MQ below (va_Qi (fun (ans : Int32) (u : OS × (Nat → Option Nat) × Option (CA × CS)) => mkP t kb g j k z ans u) (wrB D A (fun u : OS × (Nat → Option Nat) × Option (CA × CS) => oW Y ad u.1 ++ (kW Y (oKp ad) u.2.1 ++ (kB Y u.2.2 ++ wr)))) A) [.ref (oO ad), .int k, .int z].toArray s 29 (mkC t kb k z) A) (F0 m 50 ls []) := by
    intro hE
    have hE1 : ¬ k < 0 := by intro h; rw [mkE, if_pos h] at hE; exact absurd hE (by decide)
    have hE2 : k ≤ 11 := by apply Classical.byContradiction; intro h; rw [mkE, if_neg hE1, if_pos h] at hE; exact absurd hE (by decide)
    have hE3 : pFits t k z = true := by
      cases hf : pFits t k z
      · rw [mkE, if_neg hE1, if_neg (fun h => h hE2), if_pos hf] at hE; exact absurd hE (by decide)
      · rfl
    have hE4 : ¬ 100 ≤ oCnt t := by intro h; rw [mkE, if_neg hE1, if_neg (fun h => h hE2), if_neg (by rw [hE3]; decide), if_pos h] at hE; exact absurd hE (by decide)
    have hE5 : ¬ (k = 11 ∧ ¬ oSv t < 3) := by intro h; rw [mkE, if_neg hE1, if_neg (fun h => h hE2), if_neg (by rw [hE3]; decide), if_neg hE4, if_pos h] at hE; exact absurd hE (by decide)
    refine lv_aload_n hx hb dX2_make_50 rfl (lv_at hl 0 rfl) ?_
    refine va_get (D := D) (ci := 3) (v := .ref (oNow ad)) (C := RX2) (T := TX2) (N := 10) hx hb hts iwX2 hown hK hP 0 rfl rfl 6 (by decide) (hts (.fieldLink RX2 34 "ObjectRows" "now" "LObjectRows$Changing;") (by decide +kernel)) (fun _ h9 => h9) rfl dX2_make_51 ?_
    refine lv_dup hx hb dX2_make_54 rfl ?_
    refine va_get (D := D) (ci := 1) (v := .int (oSto t)) (C := RX0) (T := TX0) (N := 7) hx hb hts iwX0 hown hK hP 1 rfl rfl 6 (by decide) (hts (.fieldLink RX2 57 "ObjectRows$Changing" "storage" "I") (by decide +kernel)) (fun _ h9 => h9) rfl dX2_make_55 ?_
    refine lv_iload_n hx hb dX2_make_58 rfl (lv_at hl 2 rfl) ?_
    refine lv_iload_n hx hb dX2_make_59 rfl (lv_at hl 1 rfl) ?_
    refine scI (As := [.int k]) (rest := [.int z, .int (oSto t), .ref (oNow ad)]) ⟨hx, hb, hml, hown, hts⟩ (c_X2_placeStorage l k) (va_cwS 1 hts gX2_make_X2_placeStorage rfl rfl rfl hdX2_placeStorage ⟨Nat.le_of_ble_eq_true rfl, Nat.le_of_ble_eq_true rfl⟩) rfl hl.1 rfl (Nat.le_of_ble_eq_true rfl) dX2_make_60 ⟨(by dsimp only; omega), (by dsimp only; omega)⟩ (fun r1 hr1 => ?_)
    obtain rfl : r1 = pPlace k := hr1
    refine lv_imul hx hb dX2_make_63 ?_
    refine lv_iadd hx hb dX2_make_64 ?_
    refine oFstoR hx hb hts iwX0 hown hK hP hD hS (hts (.fieldLink RX2 57 "ObjectRows$Changing" "storage" "I") (by decide +kernel)) dX2_make_65 (fun H locs hP hD hS => ?_)
    have hP : va_P D vwCl (oW Y ad (mkT t k z) ++ (kW Y (oKp ad) g ++ (kB Y kb ++ wr))) H := hP
    have hD : va_D A (oW Y ad (mkT t k z) ++ (kW Y (oKp ad) g ++ (kB Y kb ++ wr))) := hD
    have hokT : oOK (mkT t k z) := hok
    refine lv_iload_n hx hb dX2_make_68 rfl (lv_at hl 1 rfl) ?_
    by_cases c4 : k = 4
    · have ck := c4
      refine lv_tableIn (off := 47) (tgt := 116) hx hb dX2_make_69 (by rw [ck]; decide) (by rw [ck]; decide) (by rw [ck]; decide) (by decide) ?_
      obtain ⟨w, hw, hz⟩ : ∃ w, w ≤ 64 ∧ z = nI w := within_n (m := 64) rfl (by rw [ck] at hE3; exact hE3)
      have hzc : z.toNatClampNeg = w := by rw [hz]; exact nI_clamp (by omega)
      have hC : mkC t kb k z = rc (rN (oR t 5)) (rZ (oR t 5) + w) + oAddC t := by rw [mkC, if_pos hE, if_pos ck, hzc]
      refine lv_aload_n hx hb dX2_make_116 rfl (lv_at hl 0 rfl) ?_
      refine lv_iload_n hx hb dX2_make_117 rfl (lv_at hl 1 rfl) ?_
      refine lv_toE ck ?_
      refine lv_iconst (v := 0) hx hb dX2_make_118 (by decide) ?_
      refine lv_aload_n hx hb dX2_make_119 rfl (lv_at hl 0 rfl) ?_
      refine va_get (D := D) (ci := 3) (v := .ref (oH ad 5)) (C := RX2) (T := TX2) (N := 10) hx hb hts iwX2 hown hK hP 0 rfl rfl 5 (by decide) (hts (.fieldLink RX2 28 "ObjectRows" "bytes" "LObjectRows$Row;") (by decide +kernel)) (fun _ h9 => h9) rfl dX2_make_120 ?_
      refine lv_iload_n hx hb dX2_make_123 rfl (lv_at hl 2 rfl) ?_
      refine lv_toE hz ?_
      refine wcI (wN := fun u : RV => oW Y ad (oPut (mkT t k z) 5 u) ++ (kW Y (oKp ad) g ++ (kB Y kb ++ wr))) (As := [.int (nI w)]) (rest := [.int 0, .int 4, .ref (oO ad)]) ⟨hx, hb, hml, hown, hts⟩ (c_X1_addZeros l D Y (oH ad 5) (oR t 5) w _ (hok 5 (by decide)) h5.1 (by have := h5.2; omega)) (cwV 1 hts gX2_make_X1_addZeros rfl rfl rfl hdX1_addZeros ⟨Nat.le_of_ble_eq_true rfl, Nat.le_of_ble_eq_true rfl⟩) (oWr5 (t := mkT t k z) (oPR hP)) (oDr5 (t := mkT t k z) (va_D_left hD)) hK hS hA 0 2 rfl rfl rfl hl.1 rfl (Nat.le_of_ble_eq_true rfl) dX2_make_124 ⟨by dsimp only; omega, by dsimp only; omega⟩ (frIn hP hD hS hA [12, 13] rfl (oFr5 (t := mkT t k z) (H0 := _) (oPR hP) (aSelf hD) va_S.rf (fun _ h => Or.inr h))) (fun r2 e5 H locs he5 hP hD hS => ?_)
      obtain ⟨hr2, he5⟩ := he5
      obtain rfl : r2 = nI (rZ (oR t 5)) := hr2
      refine lv_iload_n hx hb dX2_make_127 rfl (lv_at hl 2 rfl) ?_
      refine wcI (wN := fun u : OS => oW Y ad u ++ (kW Y (oKp ad) g ++ (kB Y kb ++ wr))) (As := [.int 4, .int 0, .int (nI (rZ (oR t 5))), .int z]) (rest := []) ⟨hx, hb, hml, hown, hts⟩ (c_X2_addObject l D Y ad (oPut (mkT t k z) 5 e5) _ 4 0 (nI (rZ (oR t 5))) z (fun k hk h5 => by show rGd (if k = 5 then _ else _); rw [if_neg h5]; exact hgd k hk h5)) (cwV 4 hts gX2_make_X2_addObject rfl rfl rfl hdX2_addObject ⟨Nat.le_of_ble_eq_true rfl, Nat.le_of_ble_eq_true rfl⟩) (oPR hP) (va_D_left hD) hK hS hA 0 3 rfl rfl rfl hl.1 rfl (Nat.le_of_ble_eq_true rfl) dX2_make_128 ⟨by dsimp only; omega, by show _ + oAddC t ≤ _; dsimp only; omega⟩ (fun u H1 hk h1 h2 => frBlock hP hD hk (va_A_in (va_D_left hD) hS hA) h1 h2) (fun r9 v H locs hv hP hD hS => ?_)
      obtain ⟨hr9, hv⟩ := hv
      have hr9 : r9 = oCnt t := hr9
      have hc9 : oAddC (oPut (mkT t k z) 5 e5) = oAddC t := rfl
      refine W.widen (k := 29) (n := mkC t kb k z) (by omega) (by omega) ?_
      exact weI (wf := fun u : OS × (Nat → Option Nat) × Option (CA × CS) => oW Y ad u.1 ++ (kW Y (oKp ad) u.2.1 ++ (kB Y u.2.2 ++ wr))) (v, g, kb) hx hb hr hlocks hP hD hS dX2_make_131 (Or.inr ⟨hE, hr9, Or.inr ⟨by rw [ck]; decide, rfl, Or.inl ⟨ck, e5, by rw [hzc]; exact he5, hv⟩⟩⟩)
    by_cases c5 : k = 5
    · have ck := c5
      refine lv_tableIn (off := 63) (tgt := 132) hx hb dX2_make_69 (by rw [ck]; decide) (by rw [ck]; decide) (by rw [ck]; decide) (by decide) ?_
      obtain ⟨w, hw, hz⟩ : ∃ w, w ≤ 32 ∧ z = nI w := within_n (m := 32) rfl (by rw [ck] at hE3; exact hE3)
      have hzc : z.toNatClampNeg = w := by rw [hz]; exact nI_clamp (by omega)
      have hC : mkC t kb k z = rc (rN (oR t 11)) (rZ (oR t 11) + w) + oAddC t := by rw [mkC, if_pos hE, if_neg (by rw [ck]; decide), if_pos (Or.inl ck), hzc]
      refine lv_aload_n hx hb dX2_make_132 rfl (lv_at hl 0 rfl) ?_
      refine lv_iload_n hx hb dX2_make_133 rfl (lv_at hl 1 rfl) ?_
      refine lv_toE ck ?_
      refine lv_iconst (v := 0) hx hb dX2_make_134 (by decide) ?_
      refine lv_aload_n hx hb dX2_make_135 rfl (lv_at hl 0 rfl) ?_
      refine va_get (D := D) (ci := 3) (v := .ref (oNow ad)) (C := RX2) (T := TX2) (N := 10) hx hb hts iwX2 hown hK hP 0 rfl rfl 6 (by decide) (hts (.fieldLink RX2 34 "ObjectRows" "now" "LObjectRows$Changing;") (by decide +kernel)) (fun _ h9 => h9) rfl dX2_make_136 ?_
      refine va_get (D := D) (ci := 1) (v := .ref (oH ad 11)) (C := RX0) (T := TX0) (N := 7) hx hb hts iwX0 hown hK hP 1 rfl rfl 5 (by decide) (hts (.fieldLink RX2 67 "ObjectRows$Changing" "elements" "LObjectRows$Row;") (by decide +kernel)) (fun _ h9 => h9) rfl dX2_make_139 ?_
      refine lv_iload_n hx hb dX2_make_142 rfl (lv_at hl 2 rfl) ?_
      refine lv_toE hz ?_
      refine wcI (wN := fun u : RV => oW Y ad (oPut (mkT t k z) 11 u) ++ (kW Y (oKp ad) g ++ (kB Y kb ++ wr))) (As := [.int (nI w)]) (rest := [.int 0, .int 5, .ref (oO ad)]) ⟨hx, hb, hml, hown, hts⟩ (c_X1_addZeros l D Y (oH ad 11) (oR t 11) w _ (hok 11 (by decide)) h11.1 (by have := h11.2; omega)) (cwV 1 hts gX2_make_X1_addZeros rfl rfl rfl hdX1_addZeros ⟨Nat.le_of_ble_eq_true rfl, Nat.le_of_ble_eq_true rfl⟩) (oWr11 (t := mkT t k z) (oPR hP)) (oDr11 (t := mkT t k z) (va_D_left hD)) hK hS hA 0 2 rfl rfl rfl hl.1 rfl (Nat.le_of_ble_eq_true rfl) dX2_make_143 ⟨by dsimp only; omega, by dsimp only; omega⟩ (frIn hP hD hS hA [24, 25] rfl (oFr11 (t := mkT t k z) (H0 := _) (oPR hP) (aSelf hD) va_S.rf (fun _ h => Or.inr h))) (fun r2 e5 H locs he5 hP hD hS => ?_)
      obtain ⟨hr2, he5⟩ := he5
      obtain rfl : r2 = nI (rZ (oR t 11)) := hr2
      refine lv_iload_n hx hb dX2_make_146 rfl (lv_at hl 2 rfl) ?_
      refine wcI (wN := fun u : OS => oW Y ad u ++ (kW Y (oKp ad) g ++ (kB Y kb ++ wr))) (As := [.int 5, .int 0, .int (nI (rZ (oR t 11))), .int z]) (rest := []) ⟨hx, hb, hml, hown, hts⟩ (c_X2_addObject l D Y ad (oPut (mkT t k z) 11 e5) _ 5 0 (nI (rZ (oR t 11))) z (fun k hk h5 => by show rGd (if k = 11 then _ else _); rw [if_neg (by omega)]; exact hgd k hk h5)) (cwV 4 hts gX2_make_X2_addObject rfl rfl rfl hdX2_addObject ⟨Nat.le_of_ble_eq_true rfl, Nat.le_of_ble_eq_true rfl⟩) (oPR hP) (va_D_left hD) hK hS hA 0 3 rfl rfl rfl hl.1 rfl (Nat.le_of_ble_eq_true rfl) dX2_make_147 ⟨by dsimp only; omega, by show _ + oAddC t ≤ _; dsimp only; omega⟩ (fun u H1 hk h1 h2 => frBlock hP hD hk (va_A_in (va_D_left hD) hS hA) h1 h2) (fun r9 v H locs hv hP hD hS => ?_)
      obtain ⟨hr9, hv⟩ := hv
      have hr9 : r9 = oCnt t := hr9
      have hc9 : oAddC (oPut (mkT t k z) 11 e5) = oAddC t := rfl
      refine W.widen (k := 29) (n := mkC t kb k z) (by omega) (by omega) ?_
      exact weI (wf := fun u : OS × (Nat → Option Nat) × Option (CA × CS) => oW Y ad u.1 ++ (kW Y (oKp ad) u.2.1 ++ (kB Y u.2.2 ++ wr))) (v, g, kb) hx hb hr hlocks hP hD hS dX2_make_150 (Or.inr ⟨hE, hr9, Or.inr ⟨by rw [ck]; decide, rfl, Or.inr (Or.inl ⟨ck, e5, by rw [hzc]; exact he5, hv⟩)⟩⟩)
    by_cases c6 : k = 6
    · have ck := c6
      refine lv_tableIn (off := 82) (tgt := 151) hx hb dX2_make_69 (by rw [ck]; decide) (by rw [ck]; decide) (by rw [ck]; decide) (by decide) ?_
      obtain ⟨w, hw, hz⟩ : ∃ w, w ≤ 32 ∧ z = nI w := fits6 (by rw [ck] at hE3; exact hE3)
      have hzc : z.toNatClampNeg = w := by rw [hz]; exact nI_clamp (by omega)
      have hC : mkC t kb k z = rc (rN (oR t 11)) (rZ (oR t 11) + w) + oAddC t := by rw [mkC, if_pos hE, if_neg (by rw [ck]; decide), if_pos (Or.inr ck), hzc]
      refine lv_aload_n hx hb dX2_make_151 rfl (lv_at hl 0 rfl) ?_
      refine lv_iload_n hx hb dX2_make_152 rfl (lv_at hl 2 rfl) ?_
      refine lv_toE hz ?_
      refine wcI (wN := fun u : OS => oW Y ad u ++ (kW Y (oKp ad) g ++ (kB Y kb ++ wr))) (As := [.int (nI w)]) (rest := []) ⟨hx, hb, hml, hown, hts⟩ (c_X2_makePacked l D Y ad (mkT t k z) w _ hokT hgd ⟨h11.1, by have : rZ (oR t 11) + 64 ≤ 400000 := h11.2; show rZ (oR t 11) + w ≤ _; omega⟩) (cwV 1 hts gX2_make_X2_makePacked rfl rfl rfl hdX2_makePacked ⟨Nat.le_of_ble_eq_true rfl, Nat.le_of_ble_eq_true rfl⟩) (oPR hP) (va_D_left hD) hK hS hA 0 3 rfl rfl rfl hl.1 rfl (Nat.le_of_ble_eq_true rfl) dX2_make_153 ⟨by dsimp only; omega, by show _ + (rc (rN (oR t 11)) (rZ (oR t 11) + w) + oAddC t) ≤ _; dsimp only; omega⟩ (fun u H1 hk h1 h2 => frBlock hP hD hk (va_A_in (va_D_left hD) hS hA) h1 h2) (fun r9 v H locs hv hP hD hS => ?_)
      obtain ⟨hr9, hv⟩ := hv
      have hr9 : r9 = oCnt t := hr9
      have hc9 : oAddC (mkT t k z) = oAddC t := rfl
      have hc8 : rN (oR (mkT t k z) 11) = rN (oR t 11) ∧ rZ (oR (mkT t k z) 11) = rZ (oR t 11) := ⟨rfl, rfl⟩
      rw [hc8.1, hc8.2]
      refine W.widen (k := 29) (n := mkC t kb k z) (by omega) (by omega) ?_
      exact weI (wf := fun u : OS × (Nat → Option Nat) × Option (CA × CS) => oW Y ad u.1 ++ (kW Y (oKp ad) u.2.1 ++ (kB Y u.2.2 ++ wr))) (v, g, kb) hx hb hr hlocks hP hD hS dX2_make_156 (Or.inr ⟨hE, hr9, Or.inr ⟨by rw [ck]; decide, rfl, Or.inr (Or.inr (Or.inl ⟨ck, by rw [hzc, hz]; rw [hz] at hv; exact hv⟩))⟩⟩)
    by_cases c7 : k = 7
    · have ck := c7
      refine lv_tableIn (off := 88) (tgt := 157) hx hb dX2_make_69 (by rw [ck]; decide) (by rw [ck]; decide) (by rw [ck]; decide) (by decide) ?_
      have hC : mkC t kb k z = rc (rN (oR t 11)) (rZ (oR t 11) + 64) + oAddC t := by rw [mkC, if_pos hE, if_neg (by rw [ck]; decide), if_neg (by rw [ck]; decide), if_pos ck]
      refine lv_aload_n hx hb dX2_make_157 rfl (lv_at hl 0 rfl) ?_
      refine lv_iload_n hx hb dX2_make_158 rfl (lv_at hl 2 rfl) ?_
      refine wcI (wN := fun u : OS => oW Y ad u ++ (kW Y (oKp ad) g ++ (kB Y kb ++ wr))) (As := [.int z]) (rest := []) ⟨hx, hb, hml, hown, hts⟩ (c_X2_makeDictionary l D Y ad (mkT t k z) _ z hokT hgd h11) (cwV 1 hts gX2_make_X2_makeDictionary rfl rfl rfl hdX2_makeDictionary ⟨Nat.le_of_ble_eq_true rfl, Nat.le_of_ble_eq_true rfl⟩) (oPR hP) (va_D_left hD) hK hS hA 0 3 rfl rfl rfl hl.1 rfl (Nat.le_of_ble_eq_true rfl) dX2_make_159 ⟨by dsimp only; omega, by show _ + (rc (rN (oR t 11)) (rZ (oR t 11) + 64) + oAddC t) ≤ _; dsimp only; omega⟩ (fun u H1 hk h1 h2 => frBlock hP hD hk (va_A_in (va_D_left hD) hS hA) h1 h2) (fun r9 v H locs hv hP hD hS => ?_)
      obtain ⟨hr9, hv⟩ := hv
      have hr9 : r9 = oCnt t := hr9
      have hc9 : oAddC (mkT t k z) = oAddC t := rfl
      have hc8 : rN (oR (mkT t k z) 11) = rN (oR t 11) ∧ rZ (oR (mkT t k z) 11) = rZ (oR t 11) := ⟨rfl, rfl⟩
      rw [hc8.1, hc8.2]
      refine W.widen (k := 29) (n := mkC t kb k z) (by omega) (by omega) ?_
      exact weI (wf := fun u : OS × (Nat → Option Nat) × Option (CA × CS) => oW Y ad u.1 ++ (kW Y (oKp ad) u.2.1 ++ (kB Y u.2.2 ++ wr))) (v, g, kb) hx hb hr hlocks hP hD hS dX2_make_162 (Or.inr ⟨hE, hr9, Or.inr ⟨by rw [ck]; decide, rfl, Or.inr (Or.inr (Or.inr (Or.inl ⟨ck, hv⟩)))⟩⟩)
    by_cases c11 : k = 11
    · have ck := c11
      refine lv_tableIn (off := 94) (tgt := 163) hx hb dX2_make_69 (by rw [ck]; decide) (by rw [ck]; decide) (by rw [ck]; decide) (by decide) ?_
      have hsv3 : oSv t < 3 := Classical.byContradiction (fun h => hE5 ⟨ck, h⟩)
      obtain ⟨hj3, hsvj, hgj⟩ := hjk ck hsv3
      have hC : mkC t kb k z = 67 + cBecC (kS kb) (oCt t) + oAddC t := by rw [mkC, if_pos hE, if_neg (by rw [ck]; decide), if_neg (by rw [ck]; decide), if_neg (by rw [ck]; decide), if_pos ck]
      refine lv_aload_n hx hb dX2_make_163 rfl (lv_at hl 0 rfl) ?_
      refine wcIn (wN := fun u : OS × (Nat → Option Nat) × Option (CA × CS) => oW Y ad u.1 ++ (kW Y (oKp ad) u.2.1 ++ (kB Y u.2.2 ++ wr))) (As := []) (rest := []) ⟨hx, hb, hml, hown, hts⟩ (c_X2_makeSave l D Y ad (mkT t k z) g kb wr j _ hokT hgd hg6 hkg hj3 hsvj hgj) (cwV 0 hts gX2_make_X2_makeSave rfl rfl rfl hdX2_makeSave ⟨Nat.le_of_ble_eq_true rfl, Nat.le_of_ble_eq_true rfl⟩) hP hD hK hN hS hA 0 3 rfl rfl rfl hl.1 rfl (Nat.le_of_ble_eq_true rfl) dX2_make_164 ⟨by dsimp only; omega, by show _ + (67 + cBecC (kS kb) (oCt t) + oAddC t) ≤ _; dsimp only; omega⟩ (frSelf hD hS hA) (fun r9 v H locs hv hP hD hS => ?_)
      have hc9 : 67 + cBecC (kS kb) (oCt (mkT t k z)) + oAddC (mkT t k z) = 67 + cBecC (kS kb) (oCt t) + oAddC t := rfl
      refine W.widen (k := 29) (n := mkC t kb k z) (by omega) (by omega) ?_
      exact weI (wf := fun u : OS × (Nat → Option Nat) × Option (CA × CS) => oW Y ad u.1 ++ (kW Y (oKp ad) u.2.1 ++ (kB Y u.2.2 ++ wr))) v hx hb hr hlocks hP hD hS dX2_make_167 (Or.inr ⟨hE, hv.1, Or.inl ⟨ck, hv.2⟩⟩)
    have hC : mkC t kb k z = oAddC t := by rw [mkC, if_pos hE, if_neg c4, if_neg (fun h => h.elim c5 c6), if_neg c7, if_neg c11, Nat.zero_add]
    refine lv_tableD (tgt := 168) hx hb dX2_make_69 (tblD (ks := [4, 5, 6, 7, 11]) (by decide) (List.forall_mem_cons.mpr ⟨neI c4 (by decide), (List.forall_mem_cons.mpr ⟨neI c5 (by decide), (List.forall_mem_cons.mpr ⟨neI c6 (by decide), (List.forall_mem_cons.mpr ⟨neI c7 (by decide), (List.forall_mem_cons.mpr ⟨neI c11 (by decide), (fun _ h => absurd h List.not_mem_nil)⟩)⟩)⟩)⟩)⟩) (by decide)) (by decide) ?_
    refine lv_aload_n hx hb dX2_make_168 rfl (lv_at hl 0 rfl) ?_
    refine lv_iload_n hx hb dX2_make_169 rfl (lv_at hl 1 rfl) ?_
    refine lv_iload_n hx hb dX2_make_170 rfl (lv_at hl 2 rfl) ?_
    refine lv_iconst (v := 0) hx hb dX2_make_171 (by decide) ?_
    refine lv_iconst (v := 0) hx hb dX2_make_172 (by decide) ?_
    refine wcI (wN := fun u : OS => oW Y ad u ++ (kW Y (oKp ad) g ++ (kB Y kb ++ wr))) (As := [.int k, .int z, .int 0, .int 0]) (rest := []) ⟨hx, hb, hml, hown, hts⟩ (c_X2_addObject l D Y ad (mkT t k z) _ k z 0 0 hgd) (cwV 4 hts gX2_make_X2_addObject rfl rfl rfl hdX2_addObject ⟨Nat.le_of_ble_eq_true rfl, Nat.le_of_ble_eq_true rfl⟩) (oPR hP) (va_D_left hD) hK hS hA 0 3 rfl rfl rfl hl.1 rfl (Nat.le_of_ble_eq_true rfl) dX2_make_173 ⟨by dsimp only; omega, by show _ + oAddC t ≤ _; dsimp only; omega⟩ (fun u H1 hk h1 h2 => frBlock hP hD hk (va_A_in (va_D_left hD) hS hA) h1 h2) (fun r9 v H locs hv hP hD hS => ?_)
    obtain ⟨hr9, hv⟩ := hv
    have hr9 : r9 = oCnt t := hr9
    have hc9 : oAddC (mkT t k z) = oAddC t := rfl
    refine W.widen (k := 29) (n := mkC t kb k z) (by omega) (by omega) ?_
    exact weI (wf := fun u : OS × (Nat → Option Nat) × Option (CA × CS) => oW Y ad u.1 ++ (kW Y (oKp ad) u.2.1 ++ (kB Y u.2.2 ++ wr))) (v, g, kb) hx hb hr hlocks hP hD hS dX2_make_176 (Or.inr ⟨hE, hr9, Or.inr ⟨c11, rfl, Or.inr (Or.inr (Or.inr (Or.inr ⟨c4, c5, c6, c7, hv⟩)))⟩⟩)
  refine lv_iload_n hx hb dX2_make_0 rfl (lv_at hl 1 rfl) ?_
  refine lv_if_lt (tgt := 10) hx hb dX2_make_1 (by decide) (fun c1 => ?_) (fun c1 => ?_)
  · refine lv_iconst (v := -1) hx hb dX2_make_10 (by decide) ?_
    exact bad _ 11 dX2_make_11 (by rw [mkE, if_pos c1]) (by decide)
  refine lv_iload_n hx hb dX2_make_4 rfl (lv_at hl 1 rfl) ?_
  refine lv_bipush (v := 11) hx hb dX2_make_5 (by decide) ?_
  refine lv_icmp_le (tgt := 12) hx hb dX2_make_7 (by decide) (fun c2 => ?_) (fun c2 => ?_)
  rotate_left
  · refine lv_iconst (v := -1) hx hb dX2_make_10 (by decide) ?_
    exact bad _ 11 dX2_make_11 (by rw [mkE, if_neg c1, if_pos c2]) (by decide)
  refine lv_aload_n hx hb dX2_make_12 rfl (lv_at hl 0 rfl) ?_
  refine lv_iload_n hx hb dX2_make_13 rfl (lv_at hl 1 rfl) ?_
  refine lv_iload_n hx hb dX2_make_14 rfl (lv_at hl 2 rfl) ?_
  refine rcI (As := [.int k, .int z]) (rest := []) ⟨hx, hb, hml, hown, hts⟩ (c_X2_sizeFits l D Y ad t k z hok) (cwV 2 hts gX2_make_X2_sizeFits rfl rfl rfl hdX2_sizeFits ⟨Nat.le_of_ble_eq_true rfl, Nat.le_of_ble_eq_true rfl⟩) (oPR hP) hK 0 3 rfl rfl rfl hl.1 rfl (Nat.le_of_ble_eq_true rfl) dX2_make_15 ⟨(by dsimp only; omega), (by dsimp only; omega)⟩ (fun r1 hr1 => ?_)
  replace hr1 : r1 = bI (pFits t k z) := hr1
  cases b2 : pFits t k z
  · replace hr1 : r1 = 0 := by rw [hr1, b2]; rfl
    subst hr1
    refine lv_if_ne (tgt := 24) hx hb dX2_make_18 (by decide) (fun c3 => absurd rfl c3) (fun _ => ?_)
    refine lv_bipush (v := -2) hx hb dX2_make_21 (by decide) ?_
    exact bad _ 23 dX2_make_23 (by rw [mkE, if_neg c1, if_neg (fun h => h c2), if_pos b2]) (by decide)
  · replace hr1 : r1 = 1 := by rw [hr1, b2]; rfl
    subst hr1
    have b3 : ¬ pFits t k z = false := by rw [b2]; decide
    refine lv_if_ne (tgt := 24) hx hb dX2_make_18 (by decide) (fun _ => ?_) (fun c3 => absurd c3 (by decide))
    refine lv_aload_n hx hb dX2_make_24 rfl (lv_at hl 0 rfl) ?_
    refine va_get (D := D) (ci := 3) (v := .int (oCnt t)) (C := RX2) (T := TX2) (N := 10) hx hb hts iwX2 hown hK hP 0 rfl rfl 8 (by decide) (hts (.fieldLink RX2 50 "ObjectRows" "count" "I") (by decide +kernel)) (fun _ h9 => h9) rfl dX2_make_25 ?_
    refine lv_bipush (v := 100) hx hb dX2_make_28 (by decide) ?_
    refine lv_icmp_ge (tgt := 47) hx hb dX2_make_30 (by decide) (fun c4 => ?_) (fun c4 => ?_)
    · refine lv_bipush (v := -4) hx hb dX2_make_47 (by decide) ?_
      exact bad _ 49 dX2_make_49 (by rw [mkE, if_neg c1, if_neg (fun h => h c2), if_neg b3, if_pos c4]) (by decide)
    refine lv_iload_n hx hb dX2_make_33 rfl (lv_at hl 1 rfl) ?_
    refine lv_bipush (v := 11) hx hb dX2_make_34 (by decide) ?_
    refine lv_icmp_ne (tgt := 50) hx hb dX2_make_36 (by decide) (fun c5 => ?_) (fun c5 => ?_)
    · exact tail (by rw [mkE, if_neg c1, if_neg (fun h => h c2), if_neg b3, if_neg c4, if_neg (fun h => c5 h.1)])
    refine lv_aload_n hx hb dX2_make_39 rfl (lv_at hl 0 rfl) ?_
    refine va_get (D := D) (ci := 3) (v := .int (oSv t)) (C := RX2) (T := TX2) (N := 10) hx hb hts iwX2 hown hK hP 0 rfl rfl 9 (by decide) (hts (.fieldLink RX2 54 "ObjectRows" "saves" "I") (by decide +kernel)) (fun _ h9 => h9) rfl dX2_make_40 ?_
    refine lv_iconst (v := 3) hx hb dX2_make_43 (by decide) ?_
    refine lv_icmp_lt (tgt := 50) hx hb dX2_make_44 (by decide) (fun c6 => ?_) (fun c6 => ?_)
    · exact tail (by rw [mkE, if_neg c1, if_neg (fun h => h c2), if_neg b3, if_neg c4, if_neg (fun h => h.2 c6)])
    refine lv_bipush (v := -4) hx hb dX2_make_47 (by decide) ?_
    exact bad _ 49 dX2_make_49 (by rw [mkE, if_neg c1, if_neg (fun h => h c2), if_neg b3, if_neg c4, if_pos ⟨c5, c6⟩]) (by decide)
