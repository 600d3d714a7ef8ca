section LWG
variable {p : Program} {l : Launch} {e : Env} {s : State} {m : MethodId} {below : List Frame} {meth : Method} {c : Code} {H : Heap} {cells slots : Nat} {b L k pc : Nat} {xs : Nat → Int32} {D : va_G} {Y : Nat → ClassId} {ls : Array Slot} {rest : List Value} {a : AS} {ad : OA} {t : OS} {K : Nat → Option (CA × CS)} {ma : MA} {S : MS} {ou : Nat} {f : Nat → Int64} {Q : State → Prop}
theorem becC_le2 {t b : CS} (h : ∀ i, i < 5 → rZ (cR b i) ≤ 100) (h5 : rZ (cR b 5) ≤ 6400) : cBecC t b ≤ 14000 := by
  have e : ∀ i, i < 5 → rc (rN (cR t i)) (rZ (cR b i)) ≤ 200 := fun i hi => rc_le (m := 100) (h i hi)
  have e0 := e 0 (by omega)
  have e1 := e 1 (by omega)
  have e2 := e 2 (by omega)
  have e3 := e 3 (by omega)
  have e4 := e 4 (by omega)
  have e5 : rc (rN (cR t 5)) (rZ (cR b 5)) ≤ 12800 := rc_le (m := 6400) h5
  unfold cBecC
  omega
set_option maxHeartbeats 4000000 in
set_option maxRecDepth 100000 in
theorem lw_restore1 {s0 : Nat} (hs0 : s0 < aV a) (hx1 : lX xs k 1 = nI (aSo a s0)) (hkn : pKnown t (nI (aSo a s0)) = true) (hgk : ∀ g, gKept t g (nI (aSo a s0)) = g s0) (C : LC p s m c b L xs D Y) (hN : LN p l e s m below meth c b k D Y) (hk : 4 * k + 4 ≤ L) (hS0 : LSt D Y s H a ad t K ma S ou f) (hl : lv_has ls 7 (lLv b k ad ma ou)) : W p l e room_1 s m #[Value.ref b] below meth c H [] (lCe k) (lSl k t K) (lw_Z below #[Value.ref b] s) (F0 m 620 ls []) := by
  have C0 := C
  obtain ⟨hx, hb, hml, hown, hts, hK, hNe, hX, hbl, hL⟩ := C0
  obtain ⟨hR, hP, hD, hS⟩ := hS0
  have hce : lCe k + 30 ≤ room_1.cells := Nat.le_trans (m := 600000) (by unfold lCe; omega) (by decide)
  have hsl : lSl k t K + 100000 ≤ room_1.slots := Nat.le_trans (m := 7000000) (by have := hR.psi_le; unfold lSl; omega) (by decide)
  have hA : ∀ q, s.heap.size ≤ q → lA s q := fun _ h => h
  obtain ⟨ca, bb, hKs, h1, h11, hn1, hm13, hm14, hz5, hz6, -, -, z, hz, hzr, -⟩ := hR.sv s0 hs0
  have hN1 := hR.le
  have hs3 : s0 < 3 := Nat.lt_of_lt_of_le hs0 hR.bc.2.2.2.2.2.2.1
  have hcl : (nI (aSo a s0)).toNatClampNeg = aSo a s0 := nI_clamp (by omega)
  have hcb : cBecC (oCt t) (kS (K s0)) ≤ 14000 := by
    rw [hKs]
    exact becC_le2 (b := bb) (fun i hi => by rw [hz5 i hi]; omega) (by omega)
  obtain ⟨hPk, hDk⟩ := lK s0 hs3 ⟨hP, hD⟩
  refine lv_aload_n hx hb dL_law_620 rfl (lv_at hl 2 rfl) ?_
  refine lw_a1 C hk hS hl dL_law_621 dL_law_622 dL_law_624 dL_law_625 dL_law_626 ?_
  refine lv_toE (y := nI (aSo a s0)) hx1 ?_
  refine wcI (wN := fun u : OS => lwW Y ad u K ma S ou f) (As := [.int (nI (aSo a s0))]) (rest := []) ⟨hx, hb, hml, hown, hts⟩ (c_X2_restore l D Y ad t (kG K) (K s0) (kO Y K s0 ++ (mW Y ma S ++ lW Y ou f)) (nI (aSo a s0)) z _ hR.ok hR.c6 (fun q h => gdC_c (hR.kg s0 q hs3 h)) (fun _ => hgk _) (fun _ => (rd_n (by omega)).trans hzr) (by omega)) (cwV 1 hts gL_law_X2_restore rfl rfl rfl hdX2_restore ⟨(Nat.le_of_ble_eq_true rfl), (Nat.le_of_ble_eq_true rfl)⟩) hPk hDk hK hS hA 0 3 rfl rfl rfl hl.1 rfl (Nat.le_of_ble_eq_true rfl) dL_law_627 ⟨by show _ ≤ room_1.cells; omega, by show _ + cBecC _ _ ≤ room_1.slots; omega⟩ (fun u H1 hk h1 h2 => lK' s0 hs3 (frSelf (wf := fun u : OS => oW Y ad u ++ (kW Y (oKp ad) (kG K) ++ (kB Y (K s0) ++ (kO Y K s0 ++ (mW Y ma S ++ lW Y ou f))))) hDk hS hA u H1 hk h1 h2)) (fun r9 v H locs hv hP hD hS => ?_)
  refine va_forget hS.2.2 ?_
  replace hS := nS hS
  obtain ⟨w, hw, hr9, hvt⟩ : ∃ w, cBecP (oCt t) bb w ∧ r9 = nI (aSo a s0) ∧ v = rsF t (nI (aSo a s0)) (aSo a s0) z w := by
    rcases hv with ⟨g, -⟩ | ⟨-, g, -⟩ | ⟨-, q, w, g, g2, g3, g4⟩
    · rw [hkn] at g; cases g
    · rw [hKs] at g; cases g
    · rw [hKs] at g
      cases g
      rw [hcl] at g4
      exact ⟨w, g2, g3, g4⟩
  have hco := hR.costR (b := bb) (fun i hi => by rw [hz5 i hi]; omega) hw (nI (aSo a s0)) (aSo a s0) z
  rw [← hvt] at hco
  have hks : kS (K s0) = bb := by rw [hKs]; rfl
  rw [hks]
  rw [hks] at hcb
  have hR9 := hR.rest hs0 hKs hw hzr hz
  rw [← hvt] at hR9
  have hqo : qObj S (nI (aSo a s0)) = true := by
    rcases hR.known (nI (aSo a s0)) with ⟨j, hj, e1, e2, e3⟩ | ⟨e2, e3⟩
    · exact e3
    · rw [hkn] at e2; cases e2
  have hm11 : mK S (nI (aSo a s0)) = 11 := (hR.m11 h1).mpr h11
  refine lv_aload_n hx hb dL_law_630 rfl (lv_at hl 3 rfl) ?_
  refine lw_a1 C hk hS hl dL_law_631 dL_law_632 dL_law_634 dL_law_635 dL_law_636 ?_
  refine lv_toE (y := nI (aSo a s0)) hx1 ?_
  refine wcI (wN := fun u : MS => lwW Y ad v K ma u ou f) (As := [.int (nI (aSo a s0))]) (rest := [.int r9]) ⟨hx, hb, hml, hown, hts⟩ (c_X3_restore l D Y ma S (s0 + 1) _ (nI (aSo a s0)) hR.mv (fun _ _ => hR.hj hs0) hR.n5 hR.n9) (cwV 1 hts gL_law_X3_restore rfl rfl rfl hdX3_restore ⟨(Nat.le_of_ble_eq_true rfl), (Nat.le_of_ble_eq_true rfl)⟩) (oPR (lM ⟨hP, hD⟩).1) (va_D_left (lM ⟨hP, hD⟩).2) hK hS hA 0 4 rfl rfl rfl hl.1 rfl (Nat.le_of_ble_eq_true rfl) dL_law_637 ⟨by show _ ≤ room_1.cells; omega, by show _ ≤ room_1.slots; omega⟩ (lFm hP hD hS hA) (fun r8 u8 H locs hu hP hD hS => ?_)
  refine va_forget hS.2.2 ?_
  replace hS := nS hS
  obtain ⟨hu1, hu2⟩ := hu
  rw [fRestore, if_neg (show ¬ qObj S (nI (aSo a s0)) = false by rw [hqo]; decide), if_neg (fun h => h hm11)] at hu1 hu2
  dsimp only at hu1 hu2
  rw [← hu2] at hR9
  refine lv_icmp_eq (tgt := 645) hx hb dL_law_640 (by decide) (fun _ => ?_) (fun hne => absurd (hr9.trans hu1.symm) hne)
  exact l645 C hN ⟨hR9, hP, hD, hS⟩ hl (by unfold lCe; omega) (by unfold lSl; omega)
theorem lw_restore (C : LC p s m c b L xs D Y) (hN : LN p l e s m below meth c b k D Y) (hk : 4 * k + 4 ≤ L) (hS0 : LSt D Y s H a ad t K ma S ou f) (hl : lv_has ls 7 (lLv b k ad ma ou)) : W p l e room_1 s m #[Value.ref b] below meth c H [] (lCe k) (lSl k t K) (lw_Z below #[Value.ref b] s) (F0 m 620 ls []) := by
  by_cases hkn : pKnown t (lX xs k 1) = true
  · rcases hS0.1.kept hkn with ⟨h1, -⟩ | ⟨-, s0, hs0, e, hg⟩
    · exact lw_restore0 (fun _ => h1) C hN hk hS0 hl
    · rw [e] at hkn hg
      exact lw_restore1 hs0 e hkn hg C hN hk hS0 hl
  · exact lw_restore0 (fun h => absurd h hkn) C hN hk hS0 hl
end LWG
