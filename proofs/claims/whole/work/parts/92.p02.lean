/-! reading the relation -/
theorem rd_n {f : Nat → Int32} {j : Nat} (h : j < 2 ^ 31) : rd f (nI j) = f j := by rw [rd, if_neg (nI_pos h), nI_clamp h]
section REL
variable {a : AS} {t : OS} {K : Nat → Option (CA × CS)} {S : MS} {j : Nat}
theorem RelA.bc (h : RelA a t K S) : bcR a t S := h.1
theorem RelA.rw (h : RelA a t K S) : rwR a t := h.2.1
theorem RelA.sa (h : RelA a t K S) (hj : j < aN a) : stA a j := (h.2.2.1 j hj).1
theorem RelA.sj (h : RelA a t K S) (hj : j < aN a) : stJ a t S j := (h.2.2.1 j hj).2
theorem RelA.byt (h : RelA a t K S) : byR a t S := h.2.2.2.1
theorem RelA.os (h : RelA a t K S) : ordd a (fun k => k = 4) (aN a) (rZ (oR t 5)) := h.2.2.2.2.1
theorem RelA.oe (h : RelA a t K S) : ordd a kElm (aN a) (rZ (oR t 11)) := h.2.2.2.2.2.1
theorem RelA.ch (h : RelA a t K S) : chR a S (aN a) 0 (cFn (oCt t)) := h.2.2.2.2.2.2.1
theorem RelA.sv (h : RelA a t K S) : ∀ s, s < aV a → svR a t K S s := h.2.2.2.2.2.2.2.1
theorem RelA.inc (h : RelA a t K S) : ∀ s s', s < s' → s' < aV a → aSo a s < aSo a s' := h.2.2.2.2.2.2.2.2.1
theorem RelA.all (h : RelA a t K S) (hj : j < aN a) (hk : aK a j = 11) : ∃ s, s < aV a ∧ aSo a s = j := h.2.2.2.2.2.2.2.2.2.1 j hj hk
theorem RelA.kg (h : RelA a t K S) : ∀ s q, s < 3 → K s = some q → gdC q.2 := h.2.2.2.2.2.2.2.2.2.2
theorem RelA.le (h : RelA a t K S) : aN a ≤ 100 := h.bc.2.2.2.1
theorem RelA.known (h : RelA a t K S) (x : Int32) : (∃ j, j < aN a ∧ x = nI j ∧ pKnown t x = true ∧ qObj S x = true) ∨ (pKnown t x = false ∧ qObj S x = false) := by
  have hn := h.le
  rw [pKnown, qObj, h.bc.1, h.bc.2.1]
  rcases pk_ix x (n := aN a) (by omega) with h1 | h1 | ⟨j, hj, rfl⟩
  · right; simp [h1]
  · right; simp [h1]
  · left
    exact ⟨j, hj, rfl, by simp [nI_pos (n := j) (by omega), nI_ge hj (by omega)], by simp [nI_pos (n := j) (by omega), nI_ge hj (by omega)]⟩
theorem RelA.lt (h : RelA a t K S) (hj : j < aN a) : j < 2 ^ 31 := by have := h.le; omega
theorem RelA.k1 (h : RelA a t K S) (hj : j < aN a) : kd t (nI j) = nI (aK a j) := (rd_n (h.lt hj)).trans (h.sj hj).1
theorem RelA.k2 (h : RelA a t K S) (hj : j < aN a) : mK S (nI j) = nI (aK a j) := by rw [mK, nI_clamp (h.lt hj)]; exact (h.sj hj).2.1
theorem RelA.o1 (h : RelA a t K S) (hj : j < aN a) : ow t (nI j) = nI (aO a j) := (rd_n (h.lt hj)).trans (h.sj hj).2.2.1
theorem RelA.l1 (h : RelA a t K S) (hj : j < aN a) : len t (nI j) = nI (aW a j) := (rd_n (h.lt hj)).trans (h.sj hj).2.2.2.1
theorem RelA.l2 (h : RelA a t K S) (hj : j < aN a) : mL S (nI j) = nI (aW a j) := by rw [mL, nI_clamp (h.lt hj)]; exact (h.sj hj).2.2.2.2.1
theorem RelA.f2 (h : RelA a t K S) (hj : j < aN a) : mFr S (nI j) = nI (aF a j) := by rw [mFr, nI_clamp (h.lt hj)]; exact (h.sj hj).2.2.2.2.2.1
theorem RelA.o2 (h : RelA a t K S) (hj : j < aN a) (hk : kView (aK a j) ∨ aK a j = 7) : mNu S (nI j) = nI (aO a j) := by rw [mNu, nI_clamp (h.lt hj)]; exact ((h.sj hj).2.2.2.2.2.2.1 hk).1
theorem RelA.s1 (h : RelA a t K S) (hj : j < aN a) (hk : kView (aK a j) ∨ aK a j = 7) : sta t (nI j) = nI (aB a j + aF a j) := (rd_n (h.lt hj)).trans ((h.sj hj).2.2.2.2.2.2.1 hk).2
theorem RelA.n1 (h : RelA a t K S) (hj : j < aN a) (hk : kNum (aK a j)) : nu t (nI j) = aU a j := (rd_n (h.lt hj)).trans ((h.sj hj).2.2.2.2.2.2.2.1 hk).2
theorem RelA.n2 (h : RelA a t K S) (hj : j < aN a) (hk : kNum (aK a j)) : mNu S (nI j) = aU a j := by rw [mNu, nI_clamp (h.lt hj)]; exact ((h.sj hj).2.2.2.2.2.2.2.1 hk).1
theorem RelA.i2 (h : RelA a t K S) (hj : j < aN a) (hk : aK a j = 0 ∨ aK a j = 8 ∨ aK a j = 11) : mNu S (nI j) = nI j := by rw [mNu, nI_clamp (h.lt hj)]; exact (h.sj hj).2.2.2.2.2.2.2.2 hk
theorem RelA.ol (h : RelA a t K S) (hj : j < aN a) : aO a j < aN a := Nat.lt_of_le_of_lt (h.sa hj).2.1 hj
theorem kq {k m : Nat} {M : Int32} (hk : k ≤ 11) (hM : M = nI m) (hm : m ≤ 100) : nI k = M ↔ k = m := by
  subst hM
  exact nI_eq (by omega) (by omega)
theorem RelA.q1 (h : RelA a t K S) (hj : j < aN a) {m : Nat} {M : Int32} (hM : M = nI m) (hm : m ≤ 100) : kd t (nI j) = M ↔ aK a j = m := by rw [h.k1 hj]; exact kq (h.sa hj).1 hM hm
theorem RelA.q2 (h : RelA a t K S) (hj : j < aN a) {m : Nat} {M : Int32} (hM : M = nI m) (hm : m ≤ 100) : mK S (nI j) = M ↔ aK a j = m := by rw [h.k2 hj]; exact kq (h.sa hj).1 hM hm
theorem k_view : ∀ k, k ≤ 11 → pView (nI k) = decide (k = 4 ∨ k = 5 ∨ k = 6) := by decide +kernel
theorem k_list : ∀ k, k ≤ 11 → pList (nI k) = decide (k = 5 ∨ k = 6) := by decide +kernel
theorem k_qview : ∀ k, k ≤ 11 → qWithin (nI k) 4 6 = decide (k = 4 ∨ k = 5 ∨ k = 6) := by decide +kernel
theorem k_qacc : ∀ k, k ≤ 11 → (qWithin (nI k) 4 7 || decide (nI k = 9)) = decide (k = 4 ∨ k = 5 ∨ k = 6 ∨ k = 7 ∨ k = 9) := by decide +kernel
theorem k_num : ∀ k, k ≤ 11 → pHasNum (nI k) = decide (k = 1 ∨ k = 2 ∨ k = 3 ∨ k = 9 ∨ k = 10) := by decide +kernel
theorem k_qnum : ∀ k, k ≤ 11 → decide (qWithin (nI k) 1 3 = true ∨ nI k = 9 ∨ nI k = 10) = decide (k = 1 ∨ k = 2 ∨ k = 3 ∨ k = 9 ∨ k = 10) := by decide +kernel
theorem k_first : ∀ k, k ≤ 11 → decide (pFirst (nI k) = 0) = !decide (k = 4 ∨ k = 5 ∨ k = 6 ∨ k = 7 ∨ k = 9) := by decide +kernel
theorem RelA.d0 (h : RelA a t K S) (hj : j < aN a) : kd t (nI j) = 0 ↔ aK a j = 0 := h.q1 hj rfl (by omega)
theorem RelA.m0 (h : RelA a t K S) (hj : j < aN a) : mK S (nI j) = 0 ↔ aK a j = 0 := h.q2 hj rfl (by omega)
theorem RelA.d1 (h : RelA a t K S) (hj : j < aN a) : kd t (nI j) = 1 ↔ aK a j = 1 := h.q1 hj rfl (by omega)
theorem RelA.m1 (h : RelA a t K S) (hj : j < aN a) : mK S (nI j) = 1 ↔ aK a j = 1 := h.q2 hj rfl (by omega)
theorem RelA.d2 (h : RelA a t K S) (hj : j < aN a) : kd t (nI j) = 2 ↔ aK a j = 2 := h.q1 hj rfl (by omega)
theorem RelA.m2 (h : RelA a t K S) (hj : j < aN a) : mK S (nI j) = 2 ↔ aK a j = 2 := h.q2 hj rfl (by omega)
theorem RelA.d3 (h : RelA a t K S) (hj : j < aN a) : kd t (nI j) = 3 ↔ aK a j = 3 := h.q1 hj rfl (by omega)
theorem RelA.m3 (h : RelA a t K S) (hj : j < aN a) : mK S (nI j) = 3 ↔ aK a j = 3 := h.q2 hj rfl (by omega)
theorem RelA.d4 (h : RelA a t K S) (hj : j < aN a) : kd t (nI j) = 4 ↔ aK a j = 4 := h.q1 hj rfl (by omega)
theorem RelA.m4 (h : RelA a t K S) (hj : j < aN a) : mK S (nI j) = 4 ↔ aK a j = 4 := h.q2 hj rfl (by omega)
theorem RelA.d5 (h : RelA a t K S) (hj : j < aN a) : kd t (nI j) = 5 ↔ aK a j = 5 := h.q1 hj rfl (by omega)
theorem RelA.m5 (h : RelA a t K S) (hj : j < aN a) : mK S (nI j) = 5 ↔ aK a j = 5 := h.q2 hj rfl (by omega)
theorem RelA.d6 (h : RelA a t K S) (hj : j < aN a) : kd t (nI j) = 6 ↔ aK a j = 6 := h.q1 hj rfl (by omega)
theorem RelA.m6 (h : RelA a t K S) (hj : j < aN a) : mK S (nI j) = 6 ↔ aK a j = 6 := h.q2 hj rfl (by omega)
theorem RelA.d7 (h : RelA a t K S) (hj : j < aN a) : kd t (nI j) = 7 ↔ aK a j = 7 := h.q1 hj rfl (by omega)
theorem RelA.m7 (h : RelA a t K S) (hj : j < aN a) : mK S (nI j) = 7 ↔ aK a j = 7 := h.q2 hj rfl (by omega)
theorem RelA.d8 (h : RelA a t K S) (hj : j < aN a) : kd t (nI j) = 8 ↔ aK a j = 8 := h.q1 hj rfl (by omega)
theorem RelA.m8 (h : RelA a t K S) (hj : j < aN a) : mK S (nI j) = 8 ↔ aK a j = 8 := h.q2 hj rfl (by omega)
theorem RelA.d9 (h : RelA a t K S) (hj : j < aN a) : kd t (nI j) = 9 ↔ aK a j = 9 := h.q1 hj rfl (by omega)
theorem RelA.m9 (h : RelA a t K S) (hj : j < aN a) : mK S (nI j) = 9 ↔ aK a j = 9 := h.q2 hj rfl (by omega)
theorem RelA.d10 (h : RelA a t K S) (hj : j < aN a) : kd t (nI j) = 10 ↔ aK a j = 10 := h.q1 hj rfl (by omega)
theorem RelA.m10 (h : RelA a t K S) (hj : j < aN a) : mK S (nI j) = 10 ↔ aK a j = 10 := h.q2 hj rfl (by omega)
theorem RelA.d11 (h : RelA a t K S) (hj : j < aN a) : kd t (nI j) = 11 ↔ aK a j = 11 := h.q1 hj rfl (by omega)
theorem RelA.m11 (h : RelA a t K S) (hj : j < aN a) : mK S (nI j) = 11 ↔ aK a j = 11 := h.q2 hj rfl (by omega)
theorem RelA.pv (h : RelA a t K S) (hj : j < aN a) : pView (kd t (nI j)) = decide (aK a j = 4 ∨ aK a j = 5 ∨ aK a j = 6) := by rw [h.k1 hj, k_view _ (h.sa hj).1]
theorem RelA.qv (h : RelA a t K S) (hj : j < aN a) : qView S (nI j) = decide (aK a j = 4 ∨ aK a j = 5 ∨ aK a j = 6) := by rw [qView, h.k2 hj, k_qview _ (h.sa hj).1]
theorem RelA.ha (h : RelA a t K S) (hj : j < aN a) : qHasAcc S (nI j) = decide (aK a j = 4 ∨ aK a j = 5 ∨ aK a j = 6 ∨ aK a j = 7 ∨ aK a j = 9) := by rw [qHasAcc, h.k2 hj, k_qacc _ (h.sa hj).1]
/-- the access of an object, as the class and as the reference have it -/
theorem RelA.acc (h : RelA a t K S) (hj : j < aN a) (hk : kView (aK a j) ∨ aK a j = 7 ∨ aK a j = 9) : pAcc t (nI j) = qAcc S (nI j) := by
  have e0 : ∀ i, i < aN a → rdA t (nI i) = cFn (oCt t) 1 i := fun i hi => rd_n (h.lt hi)
  have e1 : ∀ i, i < aN a → mAc S (nI i) = mI S 6 (100 * 0 + i) := fun i hi => by rw [mAc, nI_clamp (h.lt hi), Nat.mul_zero, Nat.zero_add]
  by_cases h7 : aK a j = 7
  · have p1 : kd t (nI j) = 7 := (h.d7 hj).mpr h7
    have p2 : mK S (nI j) = 7 := (h.m7 hj).mpr h7
    rw [pAcc, qAcc, pHolder, qHolder, if_pos p1, if_pos p2, h.o1 hj, h.o2 hj (Or.inr h7), e0 _ (h.ol hj), e1 _ (h.ol hj)]
    obtain ⟨e, cp, -, -, q, -⟩ := (h.ch (aO a j) (h.ol hj)).2.2.2.2.2 (h.sa hj).2.2.1 ((h.sa hj).2.2.2.1.trans h7)
    exact q
  · have p1 : ¬ kd t (nI j) = 7 := fun e => h7 ((h.d7 hj).mp e)
    have p2 : ¬ mK S (nI j) = 7 := fun e => h7 ((h.m7 hj).mp e)
    rw [pAcc, qAcc, pHolder, qHolder, if_neg p1, if_neg p2, e0 _ hj, e1 _ hj]
    exact (h.ch j hj).2.1 (by rcases hk with q | q | q; exact Or.inl q; exact absurd q h7; exact Or.inr q)
theorem RelA.acc0 (h : RelA a t K S) (hj : j < aN a) (hk : ¬ (kView (aK a j) ∨ aK a j = 7 ∨ aK a j = 9)) : pAcc t (nI j) = 0 := by
  have e0 : rdA t (nI j) = cFn (oCt t) 1 j := rd_n (h.lt hj)
  have p1 : ¬ kd t (nI j) = 7 := fun e => hk (Or.inr (Or.inl ((h.d7 hj).mp e)))
  rw [pAcc, pHolder, if_neg p1, e0]
  exact (h.ch j hj).2.2.1 (fun q => hk (Or.inl q)) (fun q => hk (Or.inr (Or.inl q))) (fun q => hk (Or.inr (Or.inr q)))
end REL
