section LWI
variable {p : Program} {l : Launch} {e : Env} {s : State} {m : MethodId} {below : List Frame} {meth : Method} {c : Code} {H : Heap} {cells slots : Nat} {b L k pc : Nat} {xs : Nat → Int32} {D : va_G} {Y : Nat → ClassId} {ls : Array Slot} {rest : List Value} {a : AS} {ad : OA} {t : OS} {K : Nat → Option (CA × CS)} {ma : MA} {S : MS} {ou : Nat} {f : Nat → Int64} {Q : State → Prop}
set_option maxHeartbeats 4000000 in
set_option maxRecDepth 100000 in
theorem lw_make (C : LC p s m c b L xs D Y) (hN : LN p l e s m below meth c b k D Y) (hk : 4 * k + 4 ≤ L) (hS0 : LSt D Y s H a ad t K ma S ou f) (hl : lv_has ls 7 (lLv b k ad ma ou)) : W p l e room_1 s m #[Value.ref b] below meth c H [] (lCe k) (lSl k t K) (lw_Z below #[Value.ref b] s) (F0 m 108 ls []) := by
  have C0 := C
  obtain ⟨hx, hb, hml, hown, hts, hK, hNe, hX, hbl, hL⟩ := C0
  obtain ⟨hR, hP, hD, hS⟩ := hS0
  have hce : lCe k + 30 ≤ room_1.cells := Nat.le_trans (m := 600000) (by unfold lCe; omega) (by decide)
  have hsl : lSl k t K + 100000 ≤ room_1.slots := Nat.le_trans (m := 7000000) (by have := hR.psi_le; unfold lSl; omega) (by decide)
  have hA : ∀ q, s.heap.size ≤ q → lA s q := fun _ h => h
  have hmc := hR.mkC_le
  have hN1 := hR.le
  have hV3 := hR.bc.2.2.2.2.2.2.1
  obtain ⟨s0, hs3, hsv⟩ : ∃ s0, s0 < 3 ∧ (aV a < 3 → s0 = aV a) := by
    by_cases q : aV a < 3
    · exact ⟨aV a, q, fun _ => rfl⟩
    · exact ⟨0, by omega, fun h => absurd h q⟩
  have hmk := hmc (K s0) (lX xs k 1) (lX xs k 2)
  have hjk : (lX xs k 1) = 11 → oSv t < 3 → s0 < 3 ∧ oSv t = nI s0 ∧ kG K s0 = (K s0).map (fun q => cO q.1) := by
    intro _ h2
    rw [hR.bc.2.2.2.2.1] at h2
    have := (nI_ltI (a := aV a) (b := 3) (by omega) (by omega)).mp h2
    exact ⟨hs3, by rw [hsv this]; exact hR.bc.2.2.2.2.1, rfl⟩
  obtain ⟨hPk, hDk⟩ := lK s0 hs3 ⟨hP, hD⟩
  refine lv_aload_n hx hb dL_law_108 rfl (lv_at hl 2 rfl) ?_
  refine lw_a1 C hk hS hl dL_law_109 dL_law_110 dL_law_112 dL_law_113 dL_law_114 ?_
  refine lw_a2 C hk hS hl dL_law_115 dL_law_116 dL_law_118 dL_law_119 dL_law_120 ?_
  refine wcIn (wN := fun u : OS × (Nat → Option Nat) × Option (CA × CS) => oW Y ad u.1 ++ (kW Y (oKp ad) u.2.1 ++ (kB Y u.2.2 ++ (kO Y K s0 ++ (mW Y ma S ++ lW Y ou f))))) (As := [.int (lX xs k 1), .int (lX xs k 2)]) (rest := []) ⟨hx, hb, hml, hown, hts⟩ (c_X2_make l D Y ad t (kG K) (K s0) (kO Y K s0 ++ (mW Y ma S ++ lW Y ou f)) (lX xs k 1) (lX xs k 2) s0 _ hR.ok hR.gd hR.g5 hR.g11 hR.c6 (fun q h => gdC_c (hR.kg s0 q hs3 h)) hjk) (cwV 2 hts gL_law_X2_make rfl rfl rfl hdX2_make ⟨(Nat.le_of_ble_eq_true rfl), (Nat.le_of_ble_eq_true rfl)⟩) hPk hDk hK hNe hS hA 0 3 rfl rfl rfl hl.1 rfl (Nat.le_of_ble_eq_true rfl) dL_law_121 ⟨by show _ ≤ room_1.cells; omega, by show _ + mkC _ _ _ _ ≤ room_1.slots; omega⟩ (frSelf (wf := fun u : OS × (Nat → Option Nat) × Option (CA × CS) => oW Y ad u.1 ++ (kW Y (oKp ad) u.2.1 ++ (kB Y u.2.2 ++ (kO Y K s0 ++ (mW Y ma S ++ lW Y ou f))))) hDk hS hA) (fun r9 u H locs hu hP hD hS => ?_)
  refine va_forget hS.2.2 ?_
  replace hS := nS hS
  obtain ⟨K', a', g1, g2, g3, hr9, hR', hco⟩ := hR.makeP hs3 hsv hu
  obtain ⟨v, gg, kb⟩ := u
  dsimp only at g1 g2 hR' hco hP hD
  subst g1
  subst g2
  rw [← g3 Y] at hP hD
  obtain ⟨hP, hD⟩ := lK' s0 hs3 ⟨hP, hD⟩
  have q1 : ¬ mMany S = 100 → aN a < 100 := fun q => by
    rw [hR.bc.2.1] at q
    have : ¬ aN a = 100 := fun h => q (by rw [h]; rfl)
    omega
  have q2 : ¬ mSaves S = 3 → aV a < 3 := fun q => by
    rw [hR.bc.2.2.2.2.2.1] at q
    have : ¬ aV a = 3 := fun h => q (by rw [h]; rfl)
    omega
  have q3 : ¬ mMany S = 100 → ¬ mSaves S = 3 → vp_in (mSaves S + 1) 4 := fun _ q => by
    have := q2 q
    rw [hR.bc.2.2.2.2.2.1, nI_1]
    exact vp_in_nI (by omega) (by omega)
  refine lv_aload_n hx hb dL_law_124 rfl (lv_at hl 3 rfl) ?_
  refine lw_a1 C hk hS hl dL_law_125 dL_law_126 dL_law_128 dL_law_129 dL_law_130 ?_
  refine lw_a2 C hk hS hl dL_law_131 dL_law_132 dL_law_134 dL_law_135 dL_law_136 ?_
  refine wcI (wN := fun u : MS => lwW Y ad v K' ma u ou f) (As := [.int (lX xs k 1), .int (lX xs k 2)]) (rest := [.int r9]) ⟨hx, hb, hml, hown, hts⟩ (c_X3_make l D Y ma S (aN a) (aV a) _ (lX xs k 1) (lX xs k 2) hR.bc.2.1 q1 hR.bc.2.2.2.2.2.1 q2 q3 hR.hm hR.n5 hR.n9) (cwV 2 hts gL_law_X3_make rfl rfl rfl hdX3_make ⟨(Nat.le_of_ble_eq_true rfl), (Nat.le_of_ble_eq_true rfl)⟩) (oPR (lM ⟨hP, hD⟩).1) (va_D_left (lM ⟨hP, hD⟩).2) hK hS hA 0 4 rfl rfl rfl hl.1 rfl (Nat.le_of_ble_eq_true rfl) dL_law_137 ⟨by show _ ≤ room_1.cells; omega, by show _ ≤ room_1.slots; omega⟩ (lFm hP hD hS hA) (fun r8 u8 H locs hu hP hD hS => ?_)
  refine va_forget hS.2.2 ?_
  replace hS := nS hS
  obtain ⟨hu1, hu2⟩ := hu
  rw [← hu1] at hr9
  rw [← hu2] at hR'
  refine lv_icmp_eq (tgt := 645) hx hb dL_law_140 (by decide) (fun _ => ?_) (fun hne => absurd hr9 hne)
  exact l645 C hN ⟨hR', hP, hD, hS⟩ hl (by unfold lCe; omega) (by unfold lSl; omega)
end LWI
