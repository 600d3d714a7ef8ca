/-! codes -/
theorem cd_k : ∀ k, k ≤ 11 → ((nI k).toInt64 <<< ((40 : Int32).toInt64 &&& 63)).toBitVec.toNat = k * 2 ^ 40 := by decide +kernel
theorem cd_v (v : Int32) : (v.toInt64 &&& 4294967295).toBitVec.toNat = v.toBitVec.toNat := by
  rw [Int64.toBitVec_and, BitVec.toNat_and, show ((4294967295 : Int64).toBitVec.toNat) = 2 ^ 32 - 1 from by decide +kernel, Nat.and_two_pow_sub_one_eq_mod]
  rw [Int32.toBitVec_toInt64, BitVec.toNat_signExtend]
  have h := v.toBitVec.isLt
  have e : v.toBitVec.toNat % 2 ^ 64 = v.toBitVec.toNat := Nat.mod_eq_of_lt (by omega)
  rw [BitVec.toNat_setWidth, e]
  split
  · omega
  · omega
theorem cd_nat {k : Nat} (hk : k ≤ 11) (v : Int32) : (qCoded (nI k) v).toBitVec.toNat = k * 2 ^ 40 + v.toBitVec.toNat := by
  have h := v.toBitVec.isLt
  rw [qCoded, Int64.toBitVec_or, BitVec.toNat_or, cd_k k hk, cd_v, ← Nat.shiftLeft_eq, Nat.shiftLeft_add_eq_or_of_lt (by omega)]
theorem cd_inj {k m : Nat} (hk : k ≤ 11) (hm : m ≤ 11) {v w : Int32} : qCoded (nI k) v = qCoded (nI m) w ↔ k = m ∧ v = w := by
  constructor
  · intro h
    have h1 : (qCoded (nI k) v).toBitVec.toNat = (qCoded (nI m) w).toBitVec.toNat := by rw [h]
    rw [cd_nat hk, cd_nat hm] at h1
    have hv := v.toBitVec.isLt
    have hw := w.toBitVec.isLt
    have e1 : k = m := by omega
    have e2 : v.toBitVec.toNat = w.toBitVec.toNat := by omega
    exact ⟨e1, Int32.toBitVec_inj.mp (BitVec.eq_of_toNat_eq e2)⟩
  · rintro ⟨rfl, rfl⟩; rfl
theorem cd_nn {k : Nat} (hk : k ≤ 11) (v : Int32) : ¬ qCoded (nI k) v < 0 := by
  have h1 := cd_nat hk v
  have hv := v.toBitVec.isLt
  rw [Int64.lt_iff_toInt_lt, Int64.toInt, BitVec.toInt_eq_toNat_of_lt (by rw [h1]; omega)]
  rw [show (0 : Int64).toInt = 0 from rfl]
  omega
theorem mI_n {x y : Nat} (hx : x < 2 ^ 31) : ¬ nI x = -1 := by
  intro h
  have := congrArg Int32.toInt h
  rw [nI_toInt hx, show ((-1 : Int32).toInt) = -1 from rfl] at this
  omega
section REL6
variable {a : AS} {t : OS} {K : Nat → Option (CA × CS)} {S : MS} {j i : Nat}
theorem RelA.fw (h : RelA a t K S) (hj : j < aN a) : aF a j ≤ 64 ∧ aW a j ≤ 64 ∧ (aK a j = 5 ∨ aK a j = 6 → aF a j + aW a j ≤ 32) := by
  have hA := h.sa hj
  by_cases hv : kView (aK a j)
  · have := hA.2.2.2.2.2.1 hv
    exact ⟨by omega, by omega, fun q => by have := this.2.2.2 (by omega); omega⟩
  · have := hA.2.2.2.2.2.2.1 hv
    exact ⟨by omega, by omega, fun q => absurd (Or.inr q) hv⟩
/-- the reference's code of an object that is no string -/
theorem RelA.code (h : RelA a t K S) (hj : j < aN a) (h4 : aK a j ≠ 4) : qCode S (nI j) = aCd a j := by
  have hA := h.sa hj
  have hfw := h.fw hj
  have hn := h.le
  have hO := h.ol hj
  have m4 : ¬ mK S (nI j) = 4 := fun e => h4 ((h.m4 hj).mp e)
  rw [qCode, aCd]
  simp only [h.m0 hj, h.m8 hj, h.m5 hj, h.m6 hj, m4, if_false]
  simp only [h.k2 hj]
  by_cases c0 : aK a j = 0 ∨ aK a j = 8
  · rw [if_pos c0, if_pos c0]
  rw [if_neg c0, if_neg c0]
  by_cases c5 : aK a j = 5 ∨ aK a j = 6
  · rw [if_pos c5, if_pos c5, h.l2 hj]
    have e0 : nI (aW a j) = 0 ↔ aW a j = 0 := nI_eq (a := aW a j) (b := 0) (by omega) (by omega)
    simp only [e0]
    by_cases w0 : aW a j = 0
    · rw [if_pos w0, if_pos w0]
    · rw [if_neg w0, if_neg w0, h.o2 hj (Or.inl (Or.inr c5)), h.f2 hj, show (4096 : Int32) = nI 4096 from rfl, show (64 : Int32) = nI 64 from rfl, pk_mul, pk_mul, nI_add, nI_add]
  rw [if_neg c5, if_neg c5]
  by_cases c7 : aK a j = 7
  · rw [if_pos c7, h.o2 hj (Or.inr c7), c7]; rfl
  rw [if_neg c7]
  by_cases c11 : aK a j = 11
  · rw [if_pos c11, h.i2 hj (by omega), c11]; rfl
  rw [if_neg c11, h.n2 hj (by have := hA.1; unfold kNum; omega)]
theorem aCd_nn {k : Nat} (hk : aK a j ≤ 11) : ¬ aCd a j < 0 := by
  rw [aCd]
  split
  · exact cd_nn hk _
  · split
    · split
      · exact cd_nn (k := 5) (by omega) _
      · exact cd_nn hk _
    · split
      · exact cd_nn (k := 7) (by omega) _
      · split
        · exact cd_nn (k := 11) (by omega) _
        · exact cd_nn hk _
/-- the class's question, and the codes -/
theorem RelA.alikeB (h : RelA a t K S) (hj : j < aN a) (hi : i < aN a) (j4 : aK a j ≠ 4) (i4 : aK a i ≠ 4) : pAlikeB t (nI j) (nI i) = true ↔ aCd a j = aCd a i := by
  have hJ := h.sa hj
  have hI := h.sa hi
  have fj := h.fw hj
  have fi := h.fw hi
  have hn := h.le
  have oj := h.ol hj
  have oi := h.ol hi
  rw [pAlikeB]
  simp only [h.k1 hj, h.k1 hi, k_list _ hJ.1, k_list _ hI.1, h.l1 hj, h.l1 hi]
  have z1 : nI (aW a j) = 0 ↔ aW a j = 0 := nI_eq (a := aW a j) (b := 0) (by omega) (by omega)
  have z2 : nI (aW a i) = 0 ↔ aW a i = 0 := nI_eq (a := aW a i) (b := 0) (by omega) (by omega)
  have z3 : nI (aK a j) = nI (aK a i) ↔ aK a j = aK a i := nI_eq (by have := hJ.1; omega) (by have := hI.1; omega)
  simp only [z1, z2, z3, Bool.or_eq_true, Bool.and_eq_true, decide_eq_true_eq]
  by_cases c5 : aK a j = 5 ∨ aK a j = 6
  · by_cases d5 : aK a i = 5 ∨ aK a i = 6
    · have ej : aCd a j = if aW a j = 0 then qCoded 5 (-1) else qCoded (nI (aK a j)) (nI (4096 * aO a j + 64 * aF a j + aW a j)) := by rw [aCd, if_neg (by omega), if_pos c5]
      have ei : aCd a i = if aW a i = 0 then qCoded 5 (-1) else qCoded (nI (aK a i)) (nI (4096 * aO a i + 64 * aF a i + aW a i)) := by rw [aCd, if_neg (by omega), if_pos d5]
      have nJ := fj.2.2 c5
      have nI_ := fi.2.2 d5
      rw [ej, ei]
      by_cases w1 : aW a j = 0
      · by_cases w2 : aW a i = 0
        · simp only [w1, w2, if_true, c5, d5, and_self, true_or]
        · rw [if_pos w1, if_neg w2]
          constructor
          · rintro (⟨-, q⟩ | ⟨q1, q2⟩)
            · exact absurd q w2
            · exfalso
              rw [pAlikeK, q1, if_neg (by rcases d5 with q | q <;> rw [q] <;> decide), if_pos (by rcases d5 with q | q <;> rw [q] <;> decide), h.l1 hj, h.l1 hi, w1] at q2
              simp only [Bool.and_eq_true, decide_eq_true_eq] at q2
              exact w2 ((nI_eq (by omega) (by omega)).mp q2.2).symm
          · intro q
            have := ((cd_inj (k := 5) (m := aK a i) (by omega) hI.1).mp q).2
            exact absurd this.symm (mI_n (y := 0) (by omega))
      · rw [if_neg w1]
        by_cases w2 : aW a i = 0
        · rw [if_pos w2]
          constructor
          · rintro (⟨⟨-, q⟩, -⟩ | ⟨q1, q2⟩)
            · exact absurd q w1
            · exfalso
              rw [pAlikeK, if_neg (by rcases c5 with q | q <;> rw [q] <;> decide), if_pos (by rcases c5 with q | q <;> rw [q] <;> decide), h.l1 hj, h.l1 hi, w2] at q2
              simp only [Bool.and_eq_true, decide_eq_true_eq] at q2
              exact w1 ((nI_eq (by omega) (by omega)).mp q2.2)
          · intro q
            have := ((cd_inj (k := aK a j) (m := 5) hJ.1 (by omega)).mp q).2
            exact absurd this (mI_n (y := 0) (by omega))
        · rw [if_neg w2, cd_inj hJ.1 hI.1, nI_eq (by omega) (by omega)]
          rw [pAlikeK, if_neg (by rcases c5 with q | q <;> rw [q] <;> decide), if_pos (by rcases c5 with q | q <;> rw [q] <;> decide), h.o1 hj, h.o1 hi, h.l1 hj, h.l1 hi, h.s1 hj (Or.inl (Or.inr c5)), h.s1 hi (Or.inl (Or.inr d5))]
          have bj := h.oe.1 (aO a j) oj hJ.2.2.1 (by rw [hJ.2.2.2.1]; rcases c5 with q | q; exact Or.inl q; exact Or.inr (Or.inl q))
          have bi := h.oe.1 (aO a i) oi hI.2.2.1 (by rw [hI.2.2.2.1]; rcases d5 with q | q; exact Or.inl q; exact Or.inr (Or.inl q))
          have hZ : rZ (oR t 11) ≤ 64 * aN a := h.rw.2.2.2.2
          rw [hJ.2.2.2.2.1] at bj
          rw [hI.2.2.2.2.1] at bi
          simp only [Bool.and_eq_true, decide_eq_true_eq, nI_eq (show aO a j < 2 ^ 31 by omega) (show aO a i < 2 ^ 31 by omega), nI_eq (show aB a j + aF a j < 2 ^ 31 by omega) (show aB a i + aF a i < 2 ^ 31 by omega), nI_eq (show aW a j < 2 ^ 31 by omega) (show aW a i < 2 ^ 31 by omega), c5, d5, w1, w2, and_false, false_or, true_and]
          constructor
          · rintro ⟨q0, ⟨q1, q2⟩, q3⟩
            refine ⟨q0, ?_⟩
            have : aB a j = aB a i := by rw [← hJ.2.2.2.2.1, ← hI.2.2.2.2.1, q1]
            omega
          · rintro ⟨q0, q1⟩
            have e1 : aO a j = aO a i := by omega
            have : aB a j = aB a i := by rw [← hJ.2.2.2.2.1, ← hI.2.2.2.2.1, e1]
            exact ⟨q0, ⟨e1, by omega⟩, by omega⟩
    · simp only [c5, d5, false_and, and_false, false_or]
      constructor
      · rintro ⟨q, -⟩; omega
      · intro q
        exfalso
        rw [aCd, if_neg (by omega), if_pos c5, aCd] at q
        have hne : ∀ (m n : Nat) (v w : Int32), (m = 5 ∨ m = 6) → n ≤ 11 → ¬ (n = 5 ∨ n = 6) → qCoded (nI m) v = qCoded (nI n) w → False := fun m n v w h1 h2 h3 h4 => by have := ((cd_inj (by omega) h2).mp h4).1; omega
        have hL : ∀ (n : Nat) (w : Int32), n ≤ 11 → ¬ (n = 5 ∨ n = 6) → (if aW a j = 0 then qCoded 5 (-1) else qCoded (nI (aK a j)) (nI (4096 * aO a j + 64 * aF a j + aW a j))) = qCoded (nI n) w → False := by
          intro n w h2 h3 h4
          split at h4
          · exact hne 5 n _ _ (Or.inl rfl) h2 h3 h4
          · exact hne _ n _ _ c5 h2 h3 h4
        rw [if_neg d5] at q
        by_cases e0 : aK a i = 0 ∨ aK a i = 8
        · rw [if_pos e0] at q; exact hL _ _ hI.1 d5 q
        rw [if_neg e0] at q
        by_cases e7 : aK a i = 7
        · rw [if_pos e7] at q; exact hL 7 _ (by omega) (by omega) q
        rw [if_neg e7] at q
        by_cases e11 : aK a i = 11
        · rw [if_pos e11] at q; exact hL 11 _ (by omega) (by omega) q
        rw [if_neg e11] at q
        exact hL _ _ hI.1 d5 q
  · simp only [c5, false_and, and_false, false_or]
    -- the class's kinds decide
    have hF : ∀ m, m < aN a → aK a m ≠ 4 → ¬ (aK a m = 5 ∨ aK a m = 6) → ∃ w, aCd a m = qCoded (nI (aK a m)) w ∧ w = (if aK a m = 0 ∨ aK a m = 8 then 0 else if aK a m = 7 then nI (aO a m) else if aK a m = 11 then nI m else aU a m) := by
      intro m hm m4 m5
      by_cases e0 : aK a m = 0 ∨ aK a m = 8
      · exact ⟨_, by rw [aCd, if_pos e0], by rw [if_pos e0]⟩
      by_cases e7 : aK a m = 7
      · exact ⟨nI (aO a m), by rw [aCd, if_neg e0, if_neg m5, if_pos e7, e7]; rfl, by rw [if_neg e0, if_pos e7]⟩
      by_cases e11 : aK a m = 11
      · exact ⟨nI m, by rw [aCd, if_neg e0, if_neg m5, if_neg e7, if_pos e11, e11]; rfl, by rw [if_neg e0, if_neg e7, if_pos e11]⟩
      · exact ⟨aU a m, by rw [aCd, if_neg e0, if_neg m5, if_neg e7, if_neg e11], by rw [if_neg e0, if_neg e7, if_neg e11]⟩
    by_cases d5 : aK a i = 5 ∨ aK a i = 6
    · constructor
      · rintro ⟨q, -⟩; omega
      · intro q
        exfalso
        obtain ⟨w, e, -⟩ := hF j hj j4 c5
        rw [e, aCd, if_neg (by omega), if_pos d5] at q
        split at q
        · have := ((cd_inj (k := aK a j) (m := 5) hJ.1 (by omega)).mp q).1; omega
        · have := ((cd_inj (k := aK a j) (m := aK a i) hJ.1 hI.1).mp q).1; omega
    obtain ⟨w, e, ew⟩ := hF j hj j4 c5
    obtain ⟨v, g, gw⟩ := hF i hi i4 d5
    rw [e, g, cd_inj hJ.1 hI.1]
    refine and_congr_right (fun q => ?_)
    rw [← q] at gw
    rw [pAlikeK, ew, gw]
    have k0 : (nI (aK a j) = 0 ∨ nI (aK a j) = 8) ↔ (aK a j = 0 ∨ aK a j = 8) := or_congr (kq hJ.1 rfl (by omega)) (kq hJ.1 rfl (by omega))
    have k5 : ¬ (nI (aK a j) = 5 ∨ nI (aK a j) = 6) := fun q => c5 (q.imp (kq hJ.1 rfl (by omega)).mp (kq hJ.1 rfl (by omega)).mp)
    have k7 : nI (aK a j) = 7 ↔ aK a j = 7 := kq hJ.1 rfl (by omega)
    have k11 : nI (aK a j) = 11 ↔ aK a j = 11 := kq hJ.1 rfl (by omega)
    simp only [k0, k5, k7, k11, if_false]
    by_cases e0 : aK a j = 0 ∨ aK a j = 8
    · simp only [e0, if_true]
    by_cases e7 : aK a j = 7
    · rw [if_neg e0, if_pos e7, if_neg e0, if_pos e7, if_neg e0, if_pos e7, h.o1 hj, h.o1 hi]
      exact decide_eq_true_iff
    by_cases e11 : aK a j = 11
    · rw [if_neg e0, if_neg e7, if_pos e11, if_neg e0, if_neg e7, if_pos e11, if_neg e0, if_neg e7, if_pos e11]
      exact decide_eq_true_iff
    · have kn : kNum (aK a j) := by have := hJ.1; unfold kNum; omega
      simp only [e0, e7, e11, if_false, decide_eq_true_eq, h.n1 hj kn, h.n1 hi (by rw [← q]; exact kn)]
end REL6
