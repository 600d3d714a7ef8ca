/-! what the contracts ask, out of the relation -/
section REL20
variable {a : AS} {t : OS} {K : Nat → Option (CA × CS)} {S : MS} {j : Nat}
theorem RelA.ok (h : RelA a t K S) : oOK t := by
  intro k hk
  by_cases c5 : k = 5
  · subst c5; exact h.rw.2.1.1
  by_cases c11 : k = 11
  · subst c11; exact h.rw.2.2.2.1.1
  exact (h.rw.1 k (by omega) c5).1.1
theorem RelA.gd (h : RelA a t K S) : ∀ k, k < 11 → k ≠ 5 → rGd (oR t k) := fun k hk h5 => by
  have w := h.rw.1 k hk h5
  have := h.le
  exact ⟨w.1.1, by have := w.1.2; omega, by rw [w.2]; omega⟩
theorem RelA.g5 (h : RelA a t K S) : rN (oR t 5) ≤ 400000 ∧ rZ (oR t 5) + 64 ≤ 400000 := by
  have := h.rw.2.1.2
  have := h.rw.2.2.1
  have := h.le
  omega
theorem RelA.g11 (h : RelA a t K S) : rN (oR t 11) ≤ 400000 ∧ rZ (oR t 11) + 64 ≤ 400000 := by
  have := h.rw.2.2.2.1.2
  have := h.rw.2.2.2.2
  have := h.le
  omega
theorem gdC_c {b : CS} (h : gdC b) : cGd b := by
  intro k hk
  rcases Nat.lt_or_ge k 5 with q | q
  · exact ⟨(h.1 k q).1, by have := (h.1 k q).2; omega⟩
  · obtain rfl : k = 5 := by omega
    exact ⟨h.2.1, by have := h.2.2; omega⟩
theorem RelA.c6 (h : RelA a t K S) : cGd (oCt t) := gdC_c h.gdNow
theorem RelA.n5 (h : RelA a t K S) : ∀ j, vp_nar .boolean (mI S 5 j) = mI S 5 j := fun j => by
  rcases h.bc.2.2.2.2.2.2.2.2.1 j with q | q
  · rw [q]; exact nar_b0
  · rw [q]; exact nar_b1
theorem RelA.n9 (h : RelA a t K S) : ∀ j, vp_nar .boolean (mI S 9 j) = mI S 9 j := fun j => by
  rcases h.bc.2.2.2.2.2.2.2.2.2 j with q | q
  · rw [q]; exact nar_b0
  · rw [q]; exact nar_b1
theorem placeR {o e : Nat} (ho : o < 100) (he : e ≤ 32) (hE : mEn S (nI o) = nI e) (key : Int64) : ∀ (d f p : Nat), p + d = e → d < f → qPlaceL S (nI o) key f (nI p) = -1 ∨ ∃ r, r < e ∧ qPlaceL S (nI o) key f (nI p) = nI (32 * o + r) := by
  intro d
  induction d with
  | zero =>
    intro f p hp hf
    obtain ⟨f, rfl⟩ : ∃ n, f = n + 1 := ⟨f - 1, by omega⟩
    obtain rfl : p = e := by omega
    left
    rw [qPlaceL, hE, if_pos Int32.le_rfl]
  | succ d ih =>
    intro f p hp hf
    obtain ⟨f, rfl⟩ : ∃ n, f = n + 1 := ⟨f - 1, by omega⟩
    rw [qPlaceL, hE, if_neg (nI_ge (by omega) (by omega))]
    split
    · right
      exact ⟨p, by omega, by rw [show (32 : Int32) = nI 32 from rfl, pk_mul, nI_add]⟩
    · rw [nI_1]
      exact ih f (p + 1) (by omega) (by omega)
theorem RelA.holder (h : RelA a t K S) (hj : j < aN a) : ∃ o, o < aN a ∧ qHolder S (nI j) = nI o := by
  rw [qHolder]
  simp only [h.m7 hj]
  by_cases c : aK a j = 7
  · rw [if_pos c]; exact ⟨aO a j, h.ol hj, h.o2 hj (Or.inr c)⟩
  · rw [if_neg c]; exact ⟨j, hj, rfl⟩
theorem RelA.ent (h : RelA a t K S) (hj : j < aN a) (h7 : aK a j = 7) : ∃ e cp, e ≤ cp ∧ cp ≤ 32 ∧ mEn S (nI (aO a j)) = nI e ∧ mCp S (nI (aO a j)) = nI cp := by
  obtain ⟨e, cp, d1, d2, -, -, d5, -, d7, -⟩ := h.dc hj h7
  rw [Nat.mul_zero, Nat.zero_add] at d5 d7
  exact ⟨e, cp, d1, d2, by rw [mEn, nI_clamp (h.lt (h.ol hj))]; exact d7, by rw [mCp, nI_clamp (h.lt (h.ol hj))]; exact d5⟩
theorem RelA.mv (h : RelA a t K S) : ∀ o, qObj S o = true → mV S o := by
  intro o ho
  rcases h.known o with ⟨j, hj, rfl, -, -⟩ | ⟨-, q⟩
  rotate_left
  · rw [q] at ho; cases ho
  have hn := h.le
  have hw := h.w64 hj
  have hA := h.sa hj
  have hO := h.ol hj
  refine ⟨pk_in j 100 (by omega), ?_, fun k4 i i0 i1 => ?_, fun hv i hi => ?_, fun hv k4 i i0 i1 => ?_, fun k7 => ?_⟩
  · obtain ⟨o, ho, e⟩ := h.holder hj
    exact pk_in o 400 (by omega) e
  · have k4 := (h.m4 hj).mp k4
    rw [h.l2 hj] at i1
    obtain ⟨m, hm, rfl⟩ := nI_of i0
    have i1 : m < aW a j := by
      rcases Nat.lt_or_ge m (aW a j) with q | q
      · exact q
      · exact absurd (nI_le q hm) i1
    have v := hA.2.2.2.2.2.1 (Or.inl k4)
    rw [h.o2 hj (Or.inl (Or.inl k4)), h.f2 hj, show (64 : Int32) = nI 64 from rfl, pk_mul, nI_add, nI_add]
    exact vp_in_nI (by omega) (by omega)
  · rw [h.l2 hj] at hi ⊢
    rcases wi_len hw i with ⟨m, hm, rfl, q1, q2, q3⟩ | ⟨q1, -⟩
    · exact ⟨q2, q3⟩
    · rw [q1] at hi; cases hi
  · rw [h.qv hj, decide_eq_true_iff] at hv
    have k4' : aK a j ≠ 4 := fun q => k4 ((h.m4 hj).mpr q)
    rw [h.l2 hj] at i1
    obtain ⟨m, hm, rfl⟩ := nI_of i0
    have i1 : m < aW a j := by
      rcases Nat.lt_or_ge m (aW a j) with q | q
      · exact q
      · exact absurd (nI_le q hm) i1
    have v := hA.2.2.2.2.2.1 hv
    rw [h.o2 hj (Or.inl hv), h.f2 hj, show (32 : Int32) = nI 32 from rfl, pk_mul, nI_add, nI_add]
    exact vp_in_nI (by omega) (by omega)
  · have k7 := (h.m7 hj).mp k7
    obtain ⟨e, cp, e1, e2, e3, e4⟩ := h.ent hj k7
    rw [h.o2 hj (Or.inr k7)]
    refine ⟨vp_in_nI (by omega) (by omega), fun k k0 k1 => ?_, fun key hk => ?_⟩
    · rw [e3] at k1
      obtain ⟨m, hm, rfl⟩ := nI_of k0
      have k1 : m < e := by
        rcases Nat.lt_or_ge m e with q | q
        · exact q
        · exact absurd (nI_le q hm) k1
      rw [show (32 : Int32) = nI 32 from rfl, pk_mul, nI_add]
      exact vp_in_nI (by omega) (by omega)
    · have hp := placeR (S := S) (o := aO a j) (e := e) (by omega) (by omega) e3 key e (e + 1) 0 (by omega) (by omega)
      have hq : qPlace S (nI (aO a j)) key = qPlaceL S (nI (aO a j)) key (e + 1) (nI 0) := by rw [qPlace, e3, nI_toInt (by omega)]; rfl
      rw [← hq] at hp
      rcases hp with q | ⟨r, hr, q⟩
      · rw [q] at hk; exact absurd hk (by decide)
      · exact pk_in (32 * aO a j + r) 12800 (by omega) q
theorem RelA.room (h : RelA a t K S) : ∀ d, qObj S d = true → mK S d = 7 → (¬ mEn S (mNu S d) = 32 ∨ ¬ mEn S (mNu S d) = mCp S (mNu S d)) → vp_in (32 * mNu S d + mEn S (mNu S d)) 12800 := by
  intro d hd k7 hc
  rcases h.known d with ⟨j, hj, rfl, -, -⟩ | ⟨-, q⟩
  rotate_left
  · rw [q] at hd; cases hd
  have hn := h.le
  have hO := h.ol hj
  have k7 := (h.m7 hj).mp k7
  obtain ⟨e, cp, e1, e2, e3, e4⟩ := h.ent hj k7
  rw [h.o2 hj (Or.inr k7), e3, e4] at hc
  rw [h.o2 hj (Or.inr k7), e3, show (32 : Int32) = nI 32 from rfl, pk_mul, nI_add]
  exact vp_in_nI (by omega) (by omega)
theorem RelA.hm (h : RelA a t K S) : ¬ mMany S = 100 → vp_in (mMany S) 100 := fun q => by
  have hn := h.le
  rw [h.bc.2.1] at q ⊢
  have : aN a ≠ 100 := fun e => q (by rw [e]; rfl)
  exact vp_in_nI (by omega) (by omega)
theorem RelA.hne (h : RelA a t K S) : ∀ o, qObj S o = true → o.toNatClampNeg ≠ (mMany S).toNatClampNeg ∧ (qHolder S o).toNatClampNeg ≠ (mMany S).toNatClampNeg := by
  intro o ho
  rcases h.known o with ⟨j, hj, rfl, -, -⟩ | ⟨-, q⟩
  rotate_left
  · rw [q] at ho; cases ho
  have hn := h.le
  obtain ⟨o', ho', e⟩ := h.holder hj
  rw [h.bc.2.1, e, nI_clamp (by omega), nI_clamp (by omega), nI_clamp (by omega)]
  omega
theorem RelA.saveOf (h : RelA a t K S) (hj : j < aN a) (k11 : aK a j = 11) : ∃ s, s < aV a ∧ aSo a s = j ∧ nu t (nI j) = nI s := by
  obtain ⟨s, hs, e⟩ := h.all hj k11
  obtain ⟨_, _, _, _, _, c4, _⟩ := h.sv s hs
  exact ⟨s, hs, e, by rw [← e]; exact (rd_n (h.lt (by rw [e]; exact hj))).trans c4⟩
theorem RelA.hj (h : RelA a t K S) {s : Nat} (hs : s < aV a) : 1 ≤ s + 1 ∧ s + 1 < 4 ∧ mSo S (nI (s + 1)) = nI (aSo a s) ∧ ∀ i, 1 ≤ i → i < s + 1 → ¬ mSo S (nI i) = nI (aSo a s) := by
  have h3 := h.bc.2.2.2.2.2.2.1
  have hn := h.le
  have g : ∀ s', s' < aV a → mSo S (nI (s' + 1)) = nI (aSo a s') ∧ aSo a s' < aN a := by
    intro s' hs'
    obtain ⟨_, _, _, c2, _, _, c5, _⟩ := h.sv s' hs'
    exact ⟨by rw [mSo, nI_clamp (by omega)]; exact c5, c2⟩
  refine ⟨by omega, by omega, (g s hs).1, fun i h1 h2 q => ?_⟩
  obtain ⟨s', rfl⟩ : ∃ s', i = s' + 1 := ⟨i - 1, by omega⟩
  have g' := g s' (by omega)
  rw [g'.1, nI_eq (by omega) (by have := (g s hs).2; omega)] at q
  have := h.inc s' s (by omega) hs
  omega
/-- what is kept, as the class finds it -/
theorem RelA.kept (h : RelA a t K S) {x : Int32} (hx : pKnown t x = true) : (¬ kd t x = 11 ∧ ∀ g, gKept t g x = none) ∨ (kd t x = 11 ∧ ∃ s, s < aV a ∧ x = nI (aSo a s) ∧ ∀ g, gKept t g x = g s) := by
  rcases h.known x with ⟨j, hj, rfl, -, -⟩ | ⟨q, -⟩
  rotate_left
  · rw [q] at hx; cases hx
  have h3 := h.bc.2.2.2.2.2.2.1
  by_cases k11 : aK a j = 11
  · right
    obtain ⟨s, hs, e, en⟩ := h.saveOf hj k11
    refine ⟨(h.d11 hj).mpr k11, s, hs, by rw [e], fun g => ?_⟩
    rw [gKept, if_neg (fun q => q ((h.d11 hj).mpr k11)), en, if_neg (nI_pos (by omega)), if_neg (nI_ge (by omega) (by omega)), nI_clamp (by omega)]
  · left
    have : ¬ kd t (nI j) = 11 := fun q => k11 ((h.d11 hj).mp q)
    exact ⟨this, fun g => by rw [gKept, if_pos this]⟩
end REL20
