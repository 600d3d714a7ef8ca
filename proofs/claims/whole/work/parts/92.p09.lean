/-! put -/
section REL10
variable {a : AS} {t : OS} {K : Nat → Option (CA × CS)} {S S' : MS} {j n q : Nat} {x x' : Nat → Nat → Int32}
def chJ (a : AS) (S : MS) (n q : Nat) (x : Nat → Nat → Int32) (j : Nat) : Prop := x 0 j = mI S 5 (100 * q + j) ∧ (kView (aK a j) ∨ aK a j = 9 → x 1 j = mI S 6 (100 * q + j)) ∧ (¬ kView (aK a j) → aK a j ≠ 7 → aK a j ≠ 9 → x 1 j = 0) ∧ (aK a j ≠ 7 → x 2 j = 0 ∧ x 4 j = 0) ∧
  (aO a j = j → aK a j = 5 ∨ aK a j = 6 → ∀ i, i < aW a j → x 5 (aB a j + i) = mI S 7 (3200 * q + (32 * j + i))) ∧ (aO a j = j → aK a j = 7 → dcR a S n q x j)
theorem chJ_same (hA : stA a j) (hk : ∀ k, k < 5 → x' k j = x k j) (he : aO a j = j → kElm (aK a j) → ∀ i, i < aWd a j → x' 5 (aB a j + i) = x 5 (aB a j + i)) (h5 : ∀ k, k = 5 ∨ k = 6 ∨ k = 8 ∨ k = 9 ∨ k = 10 → mI S' k (100 * q + j) = mI S k (100 * q + j)) (h7 : ∀ k, k = 7 ∨ k = 12 → ∀ i, i < 32 → mI S' k (3200 * q + (32 * j + i)) = mI S k (3200 * q + (32 * j + i))) (hJ : ∀ i, i < 32 → mJ S' (3200 * q + (32 * j + i)) = mJ S (3200 * q + (32 * j + i))) (h : chJ a S n q x j) : chJ a S' n q x' j := by
  obtain ⟨c0, c1, c2, c3, c4, c5⟩ := h
  refine ⟨by rw [hk 0 (by omega), h5 5 (by omega)]; exact c0, fun k => by rw [hk 1 (by omega), h5 6 (by omega)]; exact c1 k, fun k1 k2 k3 => by rw [hk 1 (by omega)]; exact c2 k1 k2 k3, fun k => by rw [hk 2 (by omega), hk 4 (by omega)]; exact c3 k, fun o k i hi => ?_, fun o k => ?_⟩
  · have hw : aW a j ≤ 32 := by
      have := hA.2.2.2.2.2.1 (Or.inr k)
      rw [o] at this
      exact this.2.2.2 (by omega)
    rw [he o (by rcases k with w | w; exact Or.inl w; exact Or.inr (Or.inl w)) i (by rw [aWd, if_neg (by omega)]; exact hi), h7 7 (by omega) i (by omega)]
    exact c4 o k i hi
  · obtain ⟨e, cp, d1, d2, d3, d4, d5, d6, d7, d8, d9⟩ := c5 o k
    have hw : aWd a j = 64 := by rw [aWd, if_pos k]
    refine ⟨e, cp, d1, d2, by rw [hk 1 (by omega), h5 6 (by omega)]; exact d3, by rw [hk 2 (by omega)]; exact d4, by rw [h5 8 (by omega)]; exact d5, by rw [hk 3 (by omega)]; exact d6, by rw [h5 10 (by omega)]; exact d7, by rw [hk 4 (by omega), h5 9 (by omega)]; exact d8, fun p hp => ?_⟩
    have e1 := he o (Or.inr (Or.inr k)) (32 + p) (by omega)
    have e2 := he o (Or.inr (Or.inr k)) p (by omega)
    rw [← Nat.add_assoc] at e1
    rw [e1, e2, h7 12 (by omega) p (by omega), hJ p (by omega)]
    exact d9 p hp
theorem RelA.elm (h : RelA a t K S) {o i : Nat} (ho : o < aN a) (e : aO a o = o) (k : kElm (aK a o)) (hi : i < aWd a o) : aB a o + i < rN (oR t 11) ∧ rN (oR t 11) < 1000000 ∧ aB a o + i < 6400 := by
  have h1 := h.oe.1 o ho e k
  have h2 : rZ (oR t 11) ≤ 64 * aN a := h.rw.2.2.2.2
  have h3 := h.rw.2.2.2.1.1
  have h4 : rZ (oR t 11) ≤ rN (oR t 11) := h3.2.2
  have h5 : rN (oR t 11) < 1000000 := h3.1
  have := h.le
  omega
theorem RelA.putA (h : RelA a t K S) (hj : j < aN a) (h5 : aK a j = 5) {m : Nat} {v : Int32} (hm : m < aW a j) : RelA a (oSet t 11 (nI (aB a j + aF a j + m)) v) K (mUp (mSetThr S 0) 7 (nI (32 * aO a j + aF a j + m)) v) := by
  have hA := h.sa hj
  have hO := h.ol hj
  have hn := h.le
  obtain ⟨v1, v2, v3, v4⟩ := hA.2.2.2.2.2.1 (Or.inr (Or.inl h5))
  have v4 := v4 (by omega)
  have hK5 : aK a (aO a j) = 5 := hA.2.2.2.1.trans h5
  have hEl := h.elm hO hA.2.2.1 (Or.inl hK5) (i := aF a j + m) (by rw [aWd, if_neg (by omega)]; omega)
  rw [hA.2.2.2.2.1] at hEl
  have eF : rF (rSet (oR t 11) (nI (aB a j + aF a j + m)) v) = upd (rF (oR t 11)) (aB a j + aF a j + m) v := rset_n (by omega) hEl.2.1
  have eM : ∀ i, (upd (mI S 7) (nI (32 * aO a j + aF a j + m)).toNatClampNeg v) i = (upd (mI S 7) (32 * aO a j + aF a j + m) v) i := fun i => by rw [nI_clamp (by omega)]
  refine ⟨h.bc, h.rows_set (by omega), fun i hi => ⟨h.sa hi, h.sj hi⟩, h.byt, h.os, h.oe, ?_, fun s hs => svR_S (S := S) (t := t) hn h.stAll rfl rfl (fun k hk j _ => ?_) (fun k hk i hi => ?_) (fun _ _ => rfl) rfl rfl (h.sv s hs), h.inc, fun i => h.all, h.kg⟩
  · intro o ho
    have hc : chJ a S (aN a) 0 (cFn (oCt t)) o := h.ch o ho
    by_cases eo : o = aO a j
    · subst eo
      refine ⟨hc.1, hc.2.1, hc.2.2.1, hc.2.2.2.1, fun e k i hi => ?_, fun e k => absurd (k.symm.trans hK5) (by omega)⟩
      show rF (rSet (oR t 11) (nI (aB a j + aF a j + m)) v) (aB a (aO a j) + i) = (upd (mI S 7) (nI (32 * aO a j + aF a j + m)).toNatClampNeg v) (3200 * 0 + (32 * aO a j + i))
      rw [eF, eM, hA.2.2.2.2.1]
      by_cases ei : i = aF a j + m
      · subst ei
        rw [← Nat.add_assoc, pk_us, Nat.mul_zero, Nat.zero_add, ← Nat.add_assoc, pk_us]
      · rw [pk_un (by omega), pk_un (by omega)]
        have := hc.2.2.2.2.1 e k i hi
        rw [hA.2.2.2.2.1] at this
        exact this
    · refine chJ_same (S := S) (x := cFn (oCt t)) (h.sa ho) (fun k hk => ?_) (fun e k i hi => ?_) (fun k hk => ?_) (fun k hk i hi => ?_) (fun _ _ => rfl) hc
      · show rF (if 6 + k = 11 then _ else oR t (6 + k)) o = rF (oR t (6 + k)) o
        rw [if_neg (by omega)]
      · show rF (rSet (oR t 11) (nI (aB a j + aF a j + m)) v) (aB a o + i) = rF (oR t 11) (aB a o + i)
        have hne := ordd_ne h.oe ho hO e hA.2.2.1 k (Or.inl hK5) (i := i) (i' := aF a j + m) hi (by rw [aWd, if_neg (by omega)]; omega) eo
        rw [hA.2.2.2.2.1] at hne
        rw [eF, pk_un (by omega)]
      · show (if k = 7 then upd (mI S 7) _ _ else mI S k) _ = mI S k _
        rw [if_neg (by omega)]
      · show (if k = 7 then upd (mI S 7) (nI (32 * aO a j + aF a j + m)).toNatClampNeg v else mI S k) _ = mI S k _
        by_cases k7 : k = 7
        · subst k7
          rw [if_pos rfl, eM, pk_un (by omega)]
        · rw [if_neg k7]
  · show (if k = 7 then upd (mI S 7) _ _ else mI S k) _ = mI S k _
    rw [if_neg (by omega)]
  · show (if k = 7 then upd (mI S 7) (nI (32 * aO a j + aF a j + m)).toNatClampNeg v else mI S k) _ = mI S k _
    by_cases k7 : k = 7
    · subst k7
      rw [if_pos rfl, eM, pk_un (by omega)]
    · rw [if_neg k7]
theorem RelA.put (h : RelA a t K S) (x i v : Int32) : (gPut t x i v).1 = (fPut S x i v).1 ∧ RelA a (gPut t x i v).2 K (fPut S x i v).2 := by
  rw [gPut, fPut]
  rcases h.known x with ⟨j, hj, rfl, h1, h2⟩ | ⟨h1, h2⟩
  · have n1 : ¬ pKnown t (nI j) = false := by rw [h1]; decide
    have n2 : ¬ qObj S (nI j) = false := by rw [h2]; decide
    rw [if_neg n1, if_neg n2]
    have hw := h.w64 hj
    have hn := h.le
    have hO := h.ol hj
    simp only [h.d4 hj, h.d5 hj, h.m4 hj, h.m5 hj]
    have kv : (pKnown t v = false ∧ qObj S v = false) ∨ (pKnown t v = true ∧ qObj S v = true) := by
      rcases h.known v with ⟨_, _, _, q1, q2⟩ | q
      · exact Or.inr ⟨q1, q2⟩
      · exact Or.inl q
    have hl1 : pHasEl t (nI j) i = (!decide (i < 0) && !decide (nI (aW a j) ≤ i)) := by rw [pHasEl, h.l1 hj]
    have hv : pWithin v 255 = qWithin v 0 255 := rfl
    rw [hl1, h.l2 hj, hv]
    by_cases k4 : aK a j = 4
    · have k5 : ¬ aK a j = 5 := by omega
      have ea := h.acc hj (Or.inl (Or.inl k4))
      rcases wi_len hw i with ⟨m, hm, rfl, q1, q2, q3⟩ | ⟨q1, q2⟩
      · cases hq : qWithin v 0 255
        · simp only [k4, k5, hq, q1, q2, q3]
          simp
          exact h.thr 0
        · by_cases hc : qAcc S (nI j) = 3
          · obtain ⟨w, hw2, rfl⟩ := within_n (m := 255) (n := 255) rfl (hv.trans hq)
            have r := h.putS hj k4 hm (v := w) (by omega)
            simp only [k4, k5, hq, q1, q2, q3, ea, hc]
            simp
            rw [h.s1 hj (Or.inl (Or.inl k4)), nI_add, h.o2 hj (Or.inl (Or.inl k4)), h.f2 hj, show (64 : Int32) = nI 64 from rfl, pk_mul, nI_add, nI_add]
            exact r
          · simp only [k4, k5, hq, q1, q2, q3, ea, hc]
            simp
            exact h.thr 0
      · rcases q2 with q2 | q2
        · simp only [k4, k5, q1, q2]
          simp
          exact h.thr 0
        · simp only [k4, k5, q1, q2]
          simp
          exact h.thr 0
    · by_cases k5 : aK a j = 5
      · have ea := h.acc hj (Or.inl (Or.inr (Or.inl k5)))
        rcases kv with ⟨w1, w2⟩ | ⟨w1, w2⟩
        · simp only [k4, k5, w1, w2]
          simp
          exact h.thr 0
        rcases wi_len hw i with ⟨m, hm, rfl, q1, q2, q3⟩ | ⟨q1, q2⟩
        · by_cases hc : qAcc S (nI j) = 3
          · have r := h.putA hj k5 hm (v := v)
            simp only [k4, k5, w1, w2, q1, q2, q3, ea, hc]
            simp
            rw [h.s1 hj (Or.inl (Or.inr (Or.inl k5))), nI_add, h.o2 hj (Or.inl (Or.inr (Or.inl k5))), h.f2 hj, show (32 : Int32) = nI 32 from rfl, pk_mul, nI_add, nI_add]
            exact r
          · simp only [k4, k5, w1, w2, q1, q2, q3, ea, hc]
            simp
            exact h.thr 0
        · rcases q2 with q2 | q2
          · simp only [k4, k5, w1, w2, q1, q2]
            simp
            exact h.thr 0
          · simp only [k4, k5, w1, w2, q1, q2]
            simp
            exact h.thr 0
      · simp only [k4, k5]
        simp
        exact h.thr 0
  · simp [h1, h2]
    exact h.thr 0
end REL10
