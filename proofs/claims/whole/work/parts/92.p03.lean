/-! the answers of kind, used, length, told, get -/
section REL3
variable {a : AS} {t : OS} {K : Nat → Option (CA × CS)} {S : MS} {j : Nat}
theorem RelA.kind (h : RelA a t K S) (x : Int32) : pKind t x = fKind S x := by
  rw [pKind, fKind]
  rcases h.known x with ⟨j, hj, rfl, h1, h2⟩ | ⟨h1, h2⟩
  · rw [if_pos h1, if_pos h2, h.k1 hj, h.k2 hj]
  · simp [h1, h2]
theorem RelA.dc (h : RelA a t K S) (hj : j < aN a) (h7 : aK a j = 7) : dcR a S (aN a) 0 (cFn (oCt t)) (aO a j) := (h.ch (aO a j) (h.ol hj)).2.2.2.2.2 (h.sa hj).2.2.1 ((h.sa hj).2.2.2.1.trans h7)
theorem RelA.len_ (h : RelA a t K S) (x : Int32) : pLength t x = fLength S x := by
  rw [pLength, fLength]
  rcases h.known x with ⟨j, hj, rfl, h1, h2⟩ | ⟨h1, h2⟩
  · simp only [h1, h2, h.d3 hj, h.m3 hj, h.d4 hj, h.d5 hj, h.d6 hj, h.d7 hj, h.m7 hj, h.qv hj, h.l1 hj, h.l2 hj, Bool.true_eq_false, if_false, decide_eq_true_eq]
    by_cases h3 : aK a j = 3
    · simp only [h3, if_true]
      rw [h.n1 hj (by right; right; left; exact h3), h.n2 hj (by right; right; left; exact h3), pDigits]
    by_cases hv : aK a j = 4 ∨ aK a j = 5 ∨ aK a j = 6
    · simp only [h3, hv, if_true, if_false]
    by_cases h7 : aK a j = 7
    · obtain ⟨e, cp, -, -, -, -, -, q1, q2, -⟩ := h.dc hj h7
      have e1 : rdN t (ow t (nI j)) = nI e := by rw [h.o1 hj]; exact (rd_n (h.lt (h.ol hj))).trans q1
      have e2 : mEn S (mNu S (nI j)) = nI e := by rw [h.o2 hj (Or.inr h7), mEn, nI_clamp (h.lt (h.ol hj)), ← q2, Nat.mul_zero, Nat.zero_add]
      rw [e1, e2]
      simp only [h3, hv, if_false]
    · simp only [h3, hv, h7, if_false]
  · simp [h1, h2]
theorem RelA.told (h : RelA a t K S) (x w : Int32) : pTold t x w = fTold S x w := by
  rw [pTold, fTold]
  rcases h.known x with ⟨j, hj, rfl, h1, h2⟩ | ⟨h1, h2⟩
  · rw [if_neg (show ¬ pKnown t (nI j) = false by rw [h1]; decide), if_neg (show ¬ qObj S (nI j) = false by rw [h2]; decide)]
    have hO := h.ol hj
    by_cases w0 : w = 0
    · rw [if_pos w0, if_pos w0]
      have e1 : rdX t (nI j) = cFn (oCt t) 0 j := rd_n (h.lt hj)
      rw [e1, (h.ch j hj).1, mEx, nI_clamp (h.lt hj), Nat.mul_zero, Nat.zero_add]
      rcases h.bc.2.2.2.2.2.2.2.2.1 j with q | q
      · rw [q]; decide
      · rw [q]; decide
    rw [if_neg w0, if_neg w0]
    by_cases w1 : w = 1
    · rw [if_pos w1, if_pos w1, h.ha hj]
      by_cases hk : aK a j = 4 ∨ aK a j = 5 ∨ aK a j = 6 ∨ aK a j = 7 ∨ aK a j = 9
      · rw [if_pos (by simpa using hk)]
        exact h.acc hj (by rcases hk with q | q | q | q | q <;> simp [kView, q])
      · rw [if_neg (by simpa using hk)]
        exact h.acc0 hj (fun q => hk (by rcases q with (q | q | q) | q | q <;> simp [q]))
    rw [if_neg w1, if_neg w1]
    have e2 : rdG t (ow t (nI j)) = cFn (oCt t) 4 (aO a j) := by rw [h.o1 hj]; exact rd_n (h.lt hO)
    have e3 : rdC t (ow t (nI j)) = cFn (oCt t) 2 (aO a j) := by rw [h.o1 hj]; exact rd_n (h.lt hO)
    by_cases w2 : w = 2
    · rw [if_pos w2, if_pos w2, e2]
      by_cases h7 : aK a j = 7
      · obtain ⟨e, cp, -, -, -, -, -, -, -, q, -⟩ := h.dc hj h7
        have p2 : mK S (nI j) = 7 := (h.m7 hj).mpr h7
        rw [q, h.o2 hj (Or.inr h7), mGr, nI_clamp (h.lt hO), Nat.mul_zero, Nat.zero_add]
        rcases h.bc.2.2.2.2.2.2.2.2.2 (aO a j) with q | q
        · simp [q]
        · simp [q, p2]
      · have p2 : ¬ mK S (nI j) = 7 := fun e => h7 ((h.m7 hj).mp e)
        rw [if_neg (fun q => p2 q.1)]
        exact ((h.ch (aO a j) hO).2.2.2.1 (by rw [(h.sa hj).2.2.2.1]; exact h7)).2
    rw [if_neg w2, if_neg w2]
    by_cases w3 : w = 3
    · rw [if_pos w3, if_pos w3, h.k1 hj, h.k2 hj, k_num _ (h.sa hj).1]
      have hq := k_qnum _ (h.sa hj).1
      by_cases hk : aK a j = 1 ∨ aK a j = 2 ∨ aK a j = 3 ∨ aK a j = 9 ∨ aK a j = 10
      · rw [if_pos (by simpa using hk), if_pos (by rw [decide_eq_true hk] at hq; exact of_decide_eq_true hq), h.n1 hj hk, h.n2 hj hk]
      · rw [if_neg (by simpa using hk), if_neg (by rw [decide_eq_false hk] at hq; exact of_decide_eq_false hq)]
    rw [if_neg w3, if_neg w3]
    by_cases w4 : w = 4
    · rw [if_pos w4, if_pos w4, e3]
      by_cases h7 : aK a j = 7
      · obtain ⟨e, cp, -, -, -, q, q2, -⟩ := h.dc hj h7
        rw [if_pos ((h.m7 hj).mpr h7), q, h.o2 hj (Or.inr h7), mCp, nI_clamp (h.lt hO), ← q2, Nat.mul_zero, Nat.zero_add]
      · rw [if_neg (fun e => h7 ((h.m7 hj).mp e))]
        exact ((h.ch (aO a j) hO).2.2.2.1 (by rw [(h.sa hj).2.2.2.1]; exact h7)).1
    rw [if_neg w4, if_neg w4]
  · rw [if_pos h1, if_pos h2]
/-- an element of a view -/
theorem RelA.el4 (h : RelA a t K S) (hj : j < aN a) (h4 : aK a j = 4) {i : Nat} (hi : i < aW a j) : ∃ v, v < 256 ∧ pEl t (nI j) (nI i) = nI v ∧ qByte S (nI j) (nI i) = nI v := by
  have hk : kView (aK a j) ∨ aK a j = 7 := Or.inl (Or.inl h4)
  have hA := h.sa hj
  obtain ⟨v1, v2, v3, v4⟩ := hA.2.2.2.2.2.1 (Or.inl h4)
  have hO := h.ol hj
  have hn := h.le
  have hZ : rZ (oR t 5) ≤ 64 * aN a := h.rw.2.2.1
  have hB := h.os.1 (aO a j) hO hA.2.2.1 (hA.2.2.2.1.trans h4)
  have hB2 : aB a j + aW a (aO a j) ≤ rZ (oR t 5) := by rw [hA.2.2.2.2.1, aWd, if_neg (by rw [hA.2.2.2.1, h4]; decide)] at hB; exact hB
  obtain ⟨v, w1, w2, w3⟩ := h.byt (aO a j) hO hA.2.2.1 (hA.2.2.2.1.trans h4) (aF a j + i) (by omega)
  refine ⟨v, w1, ?_, ?_⟩
  · rw [pEl, if_pos ((h.d4 hj).mpr h4), h.s1 hj hk, nI_add, rdB, rd_n (by omega), ← w2, hA.2.2.2.2.1, Nat.add_assoc]
  · rw [qByte, h.o2 hj hk, h.f2 hj, show (64 : Int32) = nI 64 from rfl, pk_mul, nI_add, nI_add, mBy, nI_clamp (by omega), ← w3, Nat.add_assoc]
theorem RelA.el5 (h : RelA a t K S) (hj : j < aN a) (h5 : aK a j = 5 ∨ aK a j = 6) {i : Nat} (hi : i < aW a j) : pEl t (nI j) (nI i) = mEl S (32 * mNu S (nI j) + mFr S (nI j) + nI i) := by
  have hk : kView (aK a j) ∨ aK a j = 7 := Or.inl (Or.inr h5)
  have hA := h.sa hj
  obtain ⟨v1, v2, v3, v4⟩ := hA.2.2.2.2.2.1 (Or.inr h5)
  have hO := h.ol hj
  have hn := h.le
  have hZ : rZ (oR t 11) ≤ 64 * aN a := h.rw.2.2.2.2
  have h5' : aK a (aO a j) = 5 ∨ aK a (aO a j) = 6 := by rw [hA.2.2.2.1]; exact h5
  have hB := h.oe.1 (aO a j) hO hA.2.2.1 (by rcases h5' with q | q; exact Or.inl q; exact Or.inr (Or.inl q))
  have hB2 : aB a j + aW a (aO a j) ≤ rZ (oR t 11) := by rw [hA.2.2.2.2.1, aWd, if_neg (by rcases h5' with q | q <;> rw [q] <;> decide)] at hB; exact hB
  have w := (h.ch (aO a j) hO).2.2.2.2.1 hA.2.2.1 h5' (aF a j + i) (by omega)
  have w : rF (oR t 11) (aB a (aO a j) + (aF a j + i)) = mI S 7 (3200 * 0 + (32 * aO a j + (aF a j + i))) := w
  have v4 := v4 (by rcases h5 with q | q <;> rw [q] <;> decide)
  rw [pEl, if_neg (fun e => by have := (h.d4 hj).mp e; omega), h.s1 hj hk, nI_add, rdE, rd_n (by omega), h.o2 hj hk, h.f2 hj, show (32 : Int32) = nI 32 from rfl, pk_mul, nI_add, nI_add, mEl, nI_clamp (by omega)]
  rw [hA.2.2.2.2.1, Nat.mul_zero, Nat.zero_add, ← Nat.add_assoc, ← Nat.add_assoc] at w
  exact w
/-- an index within a length, as both have it -/
theorem wi_len {w : Nat} (hw : w ≤ 64) (i : Int32) : (∃ m, m < w ∧ i = nI m ∧ qWithin i 0 (nI w - 1) = true ∧ ¬ i < 0 ∧ ¬ nI w ≤ i) ∨ (qWithin i 0 (nI w - 1) = false ∧ (i < 0 ∨ nI w ≤ i)) := by
  have key : ∀ i : Int32, nI w - 1 < i ↔ nI w ≤ i := by
    intro i
    have e : (nI w - 1).toInt = (w : Int) - 1 := pk_sub_toInt (a := w) (b := 1) (by omega) (by omega)
    rw [Int32.lt_iff_toInt_lt, Int32.le_iff_toInt_le, e, nI_toInt (by omega)]
    omega
  rcases pk_ix i (n := w) (by omega) with h1 | h1 | ⟨m, hm, rfl⟩
  · right; exact ⟨by simp [qWithin, h1], Or.inl h1⟩
  · right; exact ⟨by simp [qWithin, (key i).mpr h1], Or.inr h1⟩
  · left
    exact ⟨m, hm, rfl, by rw [qWithin, decide_eq_false (nI_pos (by omega)), decide_eq_false (fun q => nI_ge hm (by omega) ((key _).mp q))]; rfl, nI_pos (by omega), nI_ge hm (by omega)⟩
theorem RelA.w64 (h : RelA a t K S) (hj : j < aN a) : aW a j ≤ 64 := by
  have hA := h.sa hj
  by_cases hv : kView (aK a j)
  · have := hA.2.2.2.2.2.1 hv; omega
  · have := (hA.2.2.2.2.2.2.1 hv).2; omega
theorem RelA.get (h : RelA a t K S) (x i : Int32) : (pGetT t x i = true ↔ fThr S x i = 1) ∧ (fThr S x i = 0 ∨ fThr S x i = 1) ∧ (pGetT t x i = false → pGet t x i = fGet S x i) := by
  have h01 : fThr S x i = 0 ∨ fThr S x i = 1 := by rw [fThr]; split; exact Or.inr rfl; exact Or.inl rfl
  rcases h.known x with ⟨j, hj, rfl, h1, h2⟩ | ⟨h1, h2⟩
  · have ea : ∀ hv : kView (aK a j), pAcc t (nI j) = qAcc S (nI j) := fun hv => h.acc hj (Or.inl hv)
    rw [pGetT, pGet, fThr, fGet, h1, h2, h.pv hj, h.qv hj]
    by_cases hv : aK a j = 4 ∨ aK a j = 5 ∨ aK a j = 6
    · rw [decide_eq_true hv]
      have ea := ea hv
      by_cases hc : pAcc t (nI j) < 2
      · have hc2 : ¬ 2 ≤ qAcc S (nI j) := by rw [← ea]; exact Int32.not_le.mpr hc
        simp [hc, hc2]
      · have hc2 : 2 ≤ qAcc S (nI j) := by rw [← ea]; exact Int32.not_lt.mp hc
        have hl1 : pHasEl t (nI j) i = (!decide (i < 0) && !decide (nI (aW a j) ≤ i)) := by rw [pHasEl, h.l1 hj]
        rw [hl1, h.l2 hj]
        rcases wi_len (h.w64 hj) i with ⟨m, hm, rfl, q1, q2, q3⟩ | ⟨q1, q2⟩
        · by_cases h4 : aK a j = 4
          · obtain ⟨v, -, e1, e2⟩ := h.el4 hj h4 hm
            have p4 : mK S (nI j) = 4 := (h.m4 hj).mpr h4
            simp [hc, hc2, q1, q2, q3, e1, e2, p4]
          · have e1 := h.el5 hj (hv.resolve_left h4) hm
            have p4 : ¬ mK S (nI j) = 4 := fun e => h4 ((h.m4 hj).mp e)
            simp [hc, hc2, q1, q2, q3, e1, p4]
        · rcases q2 with q2 | q2
          · simp [hc, hc2, q1, q2]
          · simp [hc, hc2, q1, q2]
    · rw [decide_eq_false hv]
      simp
  · rw [pGetT, pGet, fThr, fGet, h1, h2]
    simp
end REL3
