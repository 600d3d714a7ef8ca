/-! attribute -/
theorem nar_b0 : vp_nar .boolean 0 = 0 := by decide +kernel
theorem nar_b1 : vp_nar .boolean 1 = 1 := by decide +kernel
section REL11
variable {a : AS} {t : OS} {K : Nat → Option (CA × CS)} {S : MS} {j : Nat}
theorem RelA.rowS (h : RelA a t K S) {k : Nat} (hk : k < 11) (h5 : k ≠ 5) {o : Nat} (ho : o < aN a) (v : Int32) : rF (rSet (oR t k) (nI o) v) = upd (rF (oR t k)) o v := by
  have w := h.rw.1 k hk h5
  have w1 : rZ (oR t k) ≤ rN (oR t k) := w.1.1.2.2
  have w2 : rN (oR t k) < 1000000 := w.1.1.1
  have w3 := w.2
  exact rset_n (by omega) w2
theorem RelA.chg (h : RelA a t K S) {k0 kk : Nat} (hk : (k0 = 6 ∧ kk = 5) ∨ (k0 = 7 ∧ kk = 6) ∨ (k0 = 10 ∧ kk = 9)) {o : Nat} (ho : o < aN a) {v w : Int32} (hw : kk = 6 ∨ w = 0 ∨ w = 1) (hc : chJ a (mUp (mSetThr S 0) kk (nI o) w) (aN a) 0 (cFn (oCt (oSet t k0 (nI o) v))) o) : RelA a (oSet t k0 (nI o) v) K (mUp (mSetThr S 0) kk (nI o) w) := by
  have hn := h.le
  have eF := h.rowS (k := k0) (by omega) (by omega) ho v
  have cl : (nI o).toNatClampNeg = o := nI_clamp (h.lt ho)
  obtain ⟨b1, b2, b3, b4, b5, b6, b7, b8, b9, b10⟩ := h.bc
  have e5 : ∀ k i, mI (mUp (mSetThr S 0) kk (nI o) w) k i = if k = kk then (if i = o then w else mI S k i) else mI S k i := by
    intro k i
    show (if k = kk then upd (mI S kk) (nI o).toNatClampNeg w else mI S k) i = _
    by_cases e : k = kk
    · subst e
      rw [if_pos rfl, if_pos rfl, cl]
      rfl
    · rw [if_neg e, if_neg e]
  have hrow : ∀ k, k ≠ k0 → oR (oSet t k0 (nI o) v) k = oR t k := fun k e => if_neg e
  have hst : ∀ i, stJ a t S i → stJ a (oSet t k0 (nI o) v) (mUp (mSetThr S 0) kk (nI o) w) i := by
    intro i hi
    unfold stJ
    rw [hrow 0 (by omega), hrow 1 (by omega), hrow 2 (by omega), hrow 3 (by omega), hrow 4 (by omega), e5 0, e5 1, e5 2, e5 3, if_neg (by omega), if_neg (by omega), if_neg (by omega), if_neg (by omega)]
    exact hi
  have z01 : ∀ k, k ≠ 6 → (∀ i, mI S k i = 0 ∨ mI S k i = 1) → ∀ i, mI (mUp (mSetThr S 0) kk (nI o) w) k i = 0 ∨ mI (mUp (mSetThr S 0) kk (nI o) w) k i = 1 := by
    intro k hk6 hz i
    rw [e5]
    by_cases c1 : k = kk
    · rw [if_pos c1]
      by_cases c2 : i = o
      · rw [if_pos c2]; exact hw.resolve_left (by omega)
      · rw [if_neg c2]; exact hz i
    · rw [if_neg c1]; exact hz i
  refine ⟨⟨b1, b2, b3, b4, b5, b6, b7, b8, z01 5 (by omega) b9, z01 9 (by omega) b10⟩, h.rows_set (by omega), fun i hi => ⟨h.sa hi, hst i (h.sj hi)⟩, ?_, ?_, ?_, ?_, fun s hs => svR_S (S := S) (t := t) hn h.stAll (by rw [hrow 1 (by omega)]) (by rw [hrow 3 (by omega)]) (fun k hk i hi => ?_) (fun k hk i hi => ?_) (fun _ _ => rfl) ?_ ?_ (h.sv s hs), h.inc, fun i => h.all, h.kg⟩
  · intro o' ho' e k i hi
    rw [hrow 5 (by omega), e5 4, if_neg (by omega)]
    exact h.byt o' ho' e k i hi
  · rw [hrow 5 (by omega)]; exact h.os
  · rw [hrow 11 (by omega)]; exact h.oe
  · intro o' ho'
    by_cases eo : o' = o
    · subst eo; exact hc
    · refine chJ_same (S := S) (x := cFn (oCt t)) (h.sa ho') (fun k hk => ?_) (fun e k i hi => ?_) (fun k hk => ?_) (fun k hk i hi => ?_) (fun _ _ => rfl) (h.ch o' ho')
      · show rF (if 6 + k = k0 then rSet (oR t k0) (nI o) v else oR t (6 + k)) o' = rF (oR t (6 + k)) o'
        by_cases c1 : 6 + k = k0
        · subst c1
          rw [if_pos rfl, eF, pk_un eo]
        · rw [if_neg c1]
      · show rF (oR (oSet t k0 (nI o) v) 11) _ = _
        rw [hrow 11 (by omega)]
      · rw [e5]
        by_cases c1 : k = kk
        · rw [if_pos c1, if_neg (by omega)]
        · rw [if_neg c1]
      · rw [e5, if_neg (by omega)]
  · rw [e5]
    by_cases c1 : k = kk
    · rw [if_pos c1, if_neg (by omega)]
    · rw [if_neg c1]
  · rw [e5, if_neg (by omega)]
  · funext i; rw [e5, if_neg (by omega)]
  · funext i; rw [e5, if_neg (by omega)]
theorem RelA.at0 (h : RelA a t K S) (hj : j < aN a) {v w : Int32} (hv : w = v) (hw : w = 0 ∨ w = 1) : RelA a (oSet t 6 (nI j) v) K (mUp (mSetThr S 0) 5 (nI j) w) := by
  subst hv
  refine h.chg (Or.inl ⟨rfl, rfl⟩) hj (Or.inr hw) ?_
  have hc : chJ a S (aN a) 0 (cFn (oCt t)) j := h.ch j hj
  refine ⟨?_, hc.2.1, hc.2.2.1, hc.2.2.2.1, hc.2.2.2.2.1, hc.2.2.2.2.2⟩
  show rF (rSet (oR t 6) (nI j) w) j = upd (mI S 5) (nI j).toNatClampNeg w (100 * 0 + j)
  rw [h.rowS (by omega) (by omega) hj, nI_clamp (h.lt hj), Nat.mul_zero, Nat.zero_add, pk_us, pk_us]
theorem RelA.at1 (h : RelA a t K S) (hj : j < aN a) (hk : kView (aK a j) ∨ aK a j = 9 ∨ (aK a j = 7 ∧ aO a j = j)) {v : Int32} : RelA a (oSet t 7 (nI j) v) K (mUp (mSetThr S 0) 6 (nI j) v) := by
  refine h.chg (Or.inr (Or.inl ⟨rfl, rfl⟩)) hj (Or.inl rfl) ?_
  have hc : chJ a S (aN a) 0 (cFn (oCt t)) j := h.ch j hj
  have e1 : cFn (oCt (oSet t 7 (nI j) v)) 1 j = mI (mUp (mSetThr S 0) 6 (nI j) v) 6 (100 * 0 + j) := by
    show rF (rSet (oR t 7) (nI j) v) j = upd (mI S 6) (nI j).toNatClampNeg v (100 * 0 + j)
    rw [h.rowS (by omega) (by omega) hj, nI_clamp (h.lt hj), Nat.mul_zero, Nat.zero_add, pk_us, pk_us]
  refine ⟨hc.1, fun _ => e1, fun k1 k2 k3 => ?_, hc.2.2.2.1, hc.2.2.2.2.1, fun o k => ?_⟩
  · rcases hk with q | q | q
    · exact absurd q k1
    · exact absurd q k3
    · exact absurd q.1 k2
  · obtain ⟨e, cp, d1, d2, d3, d4, d5, d6, d7, d8, d9⟩ := hc.2.2.2.2.2 o k
    exact ⟨e, cp, d1, d2, e1, d4, d5, d6, d7, d8, d9⟩
theorem RelA.at2 (h : RelA a t K S) (hj : j < aN a) (h7 : aK a j = 7) {v w : Int32} (hv : w = v) (hw : w = 0 ∨ w = 1) : RelA a (oSet t 10 (nI j) v) K (mUp (mSetThr S 0) 9 (nI j) w) := by
  subst hv
  refine h.chg (Or.inr (Or.inr ⟨rfl, rfl⟩)) hj (Or.inr hw) ?_
  have hc : chJ a S (aN a) 0 (cFn (oCt t)) j := h.ch j hj
  refine ⟨hc.1, hc.2.1, hc.2.2.1, fun k => absurd h7 k, hc.2.2.2.2.1, fun o k => ?_⟩
  obtain ⟨e, cp, d1, d2, d3, d4, d5, d6, d7, d8, d9⟩ := hc.2.2.2.2.2 o k
  refine ⟨e, cp, d1, d2, d3, d4, d5, d6, d7, ?_, d9⟩
  show rF (rSet (oR t 10) (nI j) w) j = upd (mI S 9) (nI j).toNatClampNeg w (100 * 0 + j)
  rw [h.rowS (by omega) (by omega) hj, nI_clamp (h.lt hj), Nat.mul_zero, Nat.zero_add, pk_us, pk_us]
theorem v01 {v : Int32} (h : pWithin v 1 = true) : vp_nar .boolean (if v = 1 then 1 else 0) = v ∧ (v = 0 ∨ v = 1) := by
  obtain ⟨w, hw, rfl⟩ := within_n (m := 1) (n := 1) rfl h
  rcases (show w = 0 ∨ w = 1 by omega) with rfl | rfl
  · exact ⟨nar_b0, Or.inl rfl⟩
  · exact ⟨nar_b1, Or.inr rfl⟩
theorem RelA.attr (h : RelA a t K S) (x w v : Int32) : (gAttr t x w v).1 = (fAttr S x w v).1 ∧ RelA a (gAttr t x w v).2 K (fAttr S x w v).2 := by
  rw [gAttr, fAttr]
  rcases h.known x with ⟨j, hj, rfl, h1, h2⟩ | ⟨h1, h2⟩
  · have n1 : ¬ pKnown t (nI j) = false := by rw [h1]; decide
    have n2 : ¬ qObj S (nI j) = false := by rw [h2]; decide
    rw [if_neg n1, if_neg n2]
    by_cases w1 : w < 0
    · simp [w1, qWithin]; exact h.thr 0
    by_cases w2 : 2 < w
    · simp [w1, w2, qWithin]; exact h.thr 0
    have hwq : ¬ qWithin w 0 2 = false := by simp [qWithin, w1, w2]
    rw [if_neg w1, if_neg w2, if_neg hwq]
    have hv : pWithin v (if w = 1 then 3 else 1) = qWithin v 0 (if w = 1 then 3 else 1) := rfl
    rw [← hv]
    cases hq : pWithin v (if w = 1 then 3 else 1)
    · simp; exact h.thr 0
    simp only [Bool.true_eq_false, if_false]
    by_cases c0 : w = 0
    · subst c0
      rw [if_pos rfl, if_neg (by simp), if_neg (by simp), if_pos rfl]
      rw [if_neg (by decide)] at hq
      obtain ⟨e1, e2⟩ := v01 hq
      exact ⟨rfl, h.at0 hj e1 (by rw [e1]; exact e2)⟩
    rw [if_neg c0]
    by_cases c1 : w = 1
    · subst c1
      rw [if_pos rfl, gLower, h.k1 hj, h.ha hj]
      have hf := k_first _ (h.sa hj).1
      by_cases hk : aK a j = 4 ∨ aK a j = 5 ∨ aK a j = 6 ∨ aK a j = 7 ∨ aK a j = 9
      · rw [decide_eq_true hk] at hf ⊢
        have ea := h.acc hj (by rcases hk with q | q | q | q | q <;> simp [kView, q])
        rw [if_neg (of_decide_eq_false hf), ea]
        by_cases c2 : v ≤ qAcc S (nI j)
        · have c3 : ¬ qAcc S (nI j) < v := Int32.not_lt.mpr c2
          rw [if_neg (fun q => q c2), if_neg (by simp [c3]), if_neg (by simp), if_neg (by decide), if_pos rfl]
          refine ⟨rfl, ?_⟩
          rw [pHolder, qHolder]
          simp only [h.d7 hj, h.m7 hj]
          by_cases k7 : aK a j = 7
          · rw [if_pos k7, if_pos k7, h.o1 hj, h.o2 hj (Or.inr k7)]
            exact h.at1 (h.ol hj) (Or.inr (Or.inr ⟨(h.sa hj).2.2.2.1.trans k7, (h.sa hj).2.2.1⟩))
          · rw [if_neg k7, if_neg k7]
            exact h.at1 hj (by unfold kView; omega)
        · have c3 : qAcc S (nI j) < v := Int32.not_le.mp c2
          rw [if_pos c2, if_pos ⟨rfl, Or.inr c3⟩]
          exact ⟨rfl, h.thr 0⟩
      · rw [decide_eq_false hk] at hf ⊢
        rw [if_pos (of_decide_eq_true hf), if_pos ⟨rfl, Or.inl rfl⟩]
        exact ⟨rfl, h.thr 0⟩
    rw [if_neg c1]
    have c2 : w = 2 := by
      have h0 := Int32.not_lt.mp w1
      obtain ⟨m, hm, rfl⟩ := nI_of2 (M := 2) (n := 2) rfl w1 (Int32.not_lt.mp w2)
      rcases (show m = 0 ∨ m = 1 ∨ m = 2 by omega) with rfl | rfl | rfl
      · exact absurd rfl c0
      · exact absurd rfl c1
      · rfl
    subst c2
    have s1 : ¬ ((2 : Int32) = 1 ∧ (qHasAcc S (nI j) = false ∨ qAcc S (nI j) < v)) := fun q => absurd q.1 (by decide)
    rw [gGrowA, if_neg s1]
    rw [if_neg (by decide)] at hq
    obtain ⟨e1, e2⟩ := v01 hq
    by_cases k7 : aK a j = 7
    · have p7 := (h.d7 hj).mpr k7
      have q7 := (h.m7 hj).mpr k7
      rw [if_neg (show ¬ ¬ kd t (nI j) = 7 from fun q => q p7), if_neg (show ¬ ((2 : Int32) = 2 ∧ ¬ mK S (nI j) = 7) from fun q => q.2 q7), if_neg (show ¬ (2 : Int32) = 0 by decide), if_neg (show ¬ (2 : Int32) = 1 by decide), h.o1 hj, h.o2 hj (Or.inr k7)]
      exact ⟨rfl, h.at2 (h.ol hj) ((h.sa hj).2.2.2.1.trans k7) e1 (by rw [e1]; exact e2)⟩
    · have p7 : ¬ kd t (nI j) = 7 := fun q => k7 ((h.d7 hj).mp q)
      have q7 : ¬ mK S (nI j) = 7 := fun q => k7 ((h.m7 hj).mp q)
      rw [if_pos p7, if_pos (show (2 : Int32) = 2 ∧ ¬ mK S (nI j) = 7 from ⟨rfl, q7⟩)]
      exact ⟨rfl, h.thr 0⟩
  · simp [h1, h2]
    exact h.thr 0
end REL11
