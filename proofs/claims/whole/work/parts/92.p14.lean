/-! make, but of a SAVE -/
theorem kf_num : ∀ k, k ≤ 11 → decide (mkNumB (nI k) = 0) = !decide (k = 1 ∨ k = 2 ∨ k = 3 ∨ k = 9 ∨ k = 10) := by decide +kernel
theorem kf_fst : ∀ k, k ≤ 11 → k = 4 ∨ k = 5 ∨ k = 6 ∨ k = 7 ∨ k = 9 → pFirst (nI k) = fBlankV (nI k) := by decide +kernel
theorem kf_fst0 : ∀ k, k ≤ 11 → ¬ (k = 4 ∨ k = 5 ∨ k = 6 ∨ k = 7 ∨ k = 9) → pFirst (nI k) = 0 := by decide +kernel
theorem cost_eq (k z : Int32) : mkCost k z = z * pPlace k := by
  rw [mkCost, pPlace]
  by_cases c4 : k = 4
  · rw [if_pos c4, if_pos c4, Int32.mul_one]
  rw [if_neg c4, if_neg c4]
  by_cases c5 : k = 5
  · rw [if_pos c5, if_pos c5, Int32.mul_comm]
  rw [if_neg c5, if_neg c5]
  by_cases c6 : k = 6
  · rw [if_pos c6, if_pos c6, Int32.mul_comm]
  rw [if_neg c6, if_neg c6]
  by_cases c7 : k = 7
  · rw [if_pos c7, if_pos c7, Int32.mul_comm]
  rw [if_neg c7, if_neg c7, Int32.mul_zero]
theorem sto8 {s c : Int32} : s + c + 8 = s + (8 + c) := by rw [Int32.add_assoc, Int32.add_comm c 8]
theorem mkNum_o {k : Nat} (hk : k ≤ 11) (h : ¬ kNum k) (z o : Int32) : mkNum (nI k) z o = o := by
  have := kf_num k hk
  rw [decide_eq_false (show ¬ (k = 1 ∨ k = 2 ∨ k = 3 ∨ k = 9 ∨ k = 10) from h)] at this
  rw [mkNum, if_pos (of_decide_eq_true this)]
theorem mkNum_z {k : Nat} (hk : k ≤ 11) (h : kNum k) (z o : Int32) : mkNum (nI k) z o = z := by
  have := kf_num k hk
  rw [decide_eq_true (show k = 1 ∨ k = 2 ∨ k = 3 ∨ k = 9 ∨ k = 10 from h)] at this
  rw [mkNum, if_neg (of_decide_eq_false this)]
section REL15
variable {a : AS} {t T u : OS} {K : Nat → Option (CA × CS)} {S : MS}
theorem RelA.mkGen (h : RelA a t K S) (hn : aN a < 100) {kk w b cp : Nat} {k z nn st zz cc : Int32} (hkk : kk ≤ 10) (hk : k = nI kk) {v : OS}
    (v1 : ∀ i, i < 11 → i ≠ 5 → gdR (oR v i) 200 ∧ rZ (oR v i) = aN a + 1 ∧ ∀ j, j < aN a → rF (oR v i) j = rF (oR t i) j) (v5 : gdR (oR v 5) 12800 ∧ rZ (oR v 5) ≤ 64 * (aN a + 1) ∧ rZ (oR t 5) ≤ rZ (oR v 5) ∧ ∀ i, i < rZ (oR t 5) → rF (oR v 5) i = rF (oR t 5) i) (v11 : gdR (oR v 11) 12800 ∧ rZ (oR v 11) ≤ 64 * (aN a + 1) ∧ rZ (oR t 11) ≤ rZ (oR v 11) ∧ ∀ i, i < rZ (oR t 11) → rF (oR v 11) i = rF (oR t 11) i)
    (vc : oCnt v = nI (aN a + 1)) (vv : oSv v = oSv t) (vs : oSto v = mUsed S + (8 + mkCost k z)) (f0 : rF (oR v 0) (aN a) = k ∧ rF (oR v 1) (aN a) = nn ∧ rF (oR v 2) (aN a) = nI (aN a) ∧ rF (oR v 3) (aN a) = st ∧ rF (oR v 4) (aN a) = zz) (f6 : rF (oR v 6) (aN a) = 0 ∧ rF (oR v 7) (aN a) = pFirst k ∧ rF (oR v 8) (aN a) = cc ∧ rF (oR v 9) (aN a) = 0 ∧ rF (oR v 10) (aN a) = 0)
    (hst : kView kk ∨ kk = 7 → st = nI b) (hnum : kNum kk → nn = z) (hname : kk = 3 → ∃ v, v ≤ 999 ∧ z = nI v) (hw1 : kView kk → z = nI w ∧ zz = nI w ∧ w ≤ 64 ∧ (kk ≠ 4 → w ≤ 32)) (hw0 : ¬ kView kk → w = 0 ∧ zz = 0) (hcap : kk = 7 → cc = z ∧ z = nI cp ∧ cp ≤ 32) (hcap0 : kk ≠ 7 → cc = 0)
    (nB : kk = 4 → ∀ i, i < w → rF (oR v 5) (b + i) = 0) (nO : kk = 4 → rZ (oR t 5) ≤ b ∧ b + w ≤ rZ (oR v 5)) (nE : kElm kk → rZ (oR t 11) ≤ b ∧ b + (if kk = 7 then 64 else w) ≤ rZ (oR v 11)) (nL : kk = 5 ∨ kk = 6 → ∀ i, i < w → rF (oR v 11) (b + i) = mkEl k z (nI (aN a)) (nI i)) :
    RelA (aApp a kk (aN a) 0 w b z) v K (fMakeS (mSetThr S 0) k z (nI (aN a)) (mUsed S) (aN a)) := by
  obtain ⟨r1, r2, r4, r7⟩ := refMake (S0 := mSetThr S 0) hn k z (mUsed S)
  obtain ⟨q1, q2, q3, q4, q5, q6⟩ := aApp_n (a := a) kk (aN a) 0 w b z
  have hlen : mkLen k z = nI w := by
    rw [mkLen, hk, k_qview kk (by omega)]
    by_cases hv : kk = 4 ∨ kk = 5 ∨ kk = 6
    · rw [decide_eq_true hv, if_pos rfl]; exact (hw1 hv).1
    · rw [decide_eq_false hv, if_neg (by decide), (hw0 hv).1]; rfl
  have hzz : zz = nI w := by
    by_cases hv : kView kk
    · exact (hw1 hv).2.1
    · rw [(hw0 hv).1, (hw0 hv).2]; rfl
  refine h.mkApp hn hkk hk v1 v5 v11 vc vv vs ?_ ?_ nB nO nE ?_
  · unfold stA
    rw [q2, q1, q2, q3, q4, q5, q6]
    refine ⟨by omega, Nat.le_refl _, rfl, rfl, rfl, fun hv => ⟨by omega, rfl, (hw1 hv).2.2.1, (hw1 hv).2.2.2⟩, fun hv => ⟨rfl, (hw0 hv).1⟩, hname, fun _ _ => rfl⟩
  · unfold stJ
    rw [q1, q2, q3, q4, q5, q6, f0.1, f0.2.1, f0.2.2.1, f0.2.2.2.1, f0.2.2.2.2, r2.1, r2.2.1, r2.2.2.1, r2.2.2.2.1]
    refine ⟨hk, hk, rfl, hzz, hlen, rfl, fun hv => ⟨?_, by rw [Nat.add_zero]; exact hst hv⟩, fun hv => ⟨by rw [hk]; exact mkNum_z (by omega) hv _ _, hnum hv⟩, fun hv => ?_⟩
    · rw [hk]; exact mkNum_o (by omega) (by rcases hv with (q | q | q) | q <;> unfold kNum <;> omega) _ _
    · rw [hk]; exact mkNum_o (by omega) (by unfold kNum; omega) _ _
  · have x0 : cFn (oCt v) 0 (aN a) = 0 := f6.1
    have x1 : cFn (oCt v) 1 (aN a) = pFirst k := f6.2.1
    have x2 : cFn (oCt v) 2 (aN a) = cc := f6.2.2.1
    have x3 : cFn (oCt v) 3 (aN a) = 0 := f6.2.2.2.1
    have x4 : cFn (oCt v) 4 (aN a) = 0 := f6.2.2.2.2
    unfold chJ
    rw [q1, q2, q4, q5, x0, x1, x2, x4, Nat.mul_zero, Nat.zero_add, r2.2.2.2.2.1, r2.2.2.2.2.2.1]
    refine ⟨rfl, fun hv => by rw [hk]; exact kf_fst kk (by omega) (by rcases hv with (q | q | q) | q <;> omega), fun k1 k2 k3 => by rw [hk]; exact kf_fst0 kk (by omega) (by unfold kView at k1; omega), fun k7 => ⟨hcap0 k7, rfl⟩, fun _ k5 i hi => ?_, fun _ k7 => ?_⟩
    · have hw := (hw1 (by unfold kView; omega)).2.2.2 (by omega)
      rw [Nat.zero_add, r7, if_pos (by omega), Nat.add_sub_cancel_left]
      exact nL k5 i hi
    · obtain ⟨c1, c2, c3⟩ := hcap k7
      refine ⟨0, cp, by omega, c3, ?_, ?_, ?_, ?_, ?_, ?_, fun p hp => absurd hp (by omega)⟩
      · rw [x1, Nat.mul_zero, Nat.zero_add, r2.2.2.2.2.2.1, hk]; exact kf_fst kk (by omega) (by omega)
      · rw [x2, c1, c2]
      · rw [Nat.mul_zero, Nat.zero_add, r2.2.2.2.2.2.2.1, mkCap, hk, k7, if_pos (by decide), c2]
      · exact x3
      · rw [Nat.mul_zero, Nat.zero_add]; exact r2.2.2.2.2.2.2.2.2
      · rw [x4, Nat.mul_zero, Nat.zero_add]; exact r2.2.2.2.2.2.2.2.1.symm
/-- no cell more -/
theorem RelA.same5 (h : RelA a t K S) (k : Nat) (hk : k = 5 ∨ k = 11) : gdR (oR t k) 12800 ∧ rZ (oR t k) ≤ 64 * (aN a + 1) ∧ rZ (oR t k) ≤ rZ (oR t k) ∧ ∀ i, i < rZ (oR t k) → rF (oR t k) i = rF (oR t k) i := by
  obtain ⟨w1, w2, w3, w4, w5⟩ := h.rw
  rcases hk with rfl | rfl
  · exact ⟨w2, by omega, Nat.le_refl _, fun _ _ => rfl⟩
  · exact ⟨w4, by omega, Nat.le_refl _, fun _ _ => rfl⟩
end REL15
