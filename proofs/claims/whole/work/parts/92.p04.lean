/-! the order of bytes; compare -/
theorem ord_eq {v w : Nat} (hv : v < 2 ^ 31) (hw : w < 2 ^ 31) : pOrder (nI v) (nI w) = if v = w then 1 else if w ≤ v then 2 else 0 := by
  rw [pOrder]
  simp only [nI_eq hv hw, nI_leI hw hv]
theorem ord_1 {v w : Nat} (hv : v < 2 ^ 31) (hw : w < 2 ^ 31) : pOrder (nI v) (nI w) = 1 ↔ v = w := by
  rw [ord_eq hv hw]
  by_cases h : v = w
  · simp [h]
  · by_cases h2 : w ≤ v
    · simp [h, h2]
    · simp [h, h2]
theorem m1_lt {v : Nat} (hv : v < 2 ^ 31) : ¬ nI v ≤ -1 := by
  rw [Int32.le_iff_toInt_le, nI_toInt hv, show ((-1 : Int32).toInt) = -1 from rfl]
  omega
theorem m1_le {v : Nat} (hv : v < 2 ^ 31) : (-1 : Int32) ≤ nI v := by
  rw [Int32.le_iff_toInt_le, nI_toInt hv, show ((-1 : Int32).toInt) = -1 from rfl]
  omega
section REL4
variable {a : AS} {t : OS} {K : Nat → Option (CA × CS)} {S : MS} {j i : Nat}
theorem RelA.ordL (h : RelA a t K S) (hj : j < aN a) (hi : i < aN a) (j4 : aK a j = 4) (i4 : aK a i = 4) : ∀ (d f1 f2 k : Nat), k + d = min (aW a j) (aW a i) → d < f1 → d < f2 → pOrdL t (nI j) (nI i) f1 (nI k) = 1 + qOrdL S (nI j) (nI i) f2 (nI k) := by
  have w1 := h.w64 hj
  have w2 := h.w64 hi
  have hm : pMinL t (nI j) (nI i) = nI (min (aW a j) (aW a i)) := by
    rw [pMinL, h.l1 hj, h.l1 hi]
    simp only [nI_ltI (show aW a i < 2 ^ 31 by omega) (show aW a j < 2 ^ 31 by omega)]
    by_cases c : aW a i < aW a j
    · rw [if_pos c, Nat.min_eq_right (by omega)]
    · rw [if_neg c, Nat.min_eq_left (by omega)]
  intro d
  induction d with
  | zero =>
    intro f1 f2 k hk h1 h2
    obtain ⟨f1, rfl⟩ : ∃ n, f1 = n + 1 := ⟨f1 - 1, by omega⟩
    obtain ⟨f2, rfl⟩ : ∃ n, f2 = n + 1 := ⟨f2 - 1, by omega⟩
    have hk : k = min (aW a j) (aW a i) := by omega
    subst hk
    rw [pOrdL, qOrdL, hm, if_pos Int32.le_rfl, h.l1 hj, h.l1 hi, h.l2 hj, h.l2 hi, ord_eq (by omega) (by omega), qOfin, qOx, qOx, h.l2 hj, h.l2 hi]
    simp only [nI_leI (show aW a j < 2 ^ 31 by omega) (show min (aW a j) (aW a i) < 2 ^ 31 by omega), nI_leI (show aW a i < 2 ^ 31 by omega) (show min (aW a j) (aW a i) < 2 ^ 31 by omega)]
    rcases Nat.lt_trichotomy (aW a j) (aW a i) with c | c | c
    · obtain ⟨v, v1, -, v2⟩ := h.el4 hi i4 (i := min (aW a j) (aW a i)) (by omega)
      rw [v2]
      simp only [show ¬ aW a j = aW a i by omega, show ¬ aW a i ≤ aW a j by omega, show aW a j ≤ min (aW a j) (aW a i) by omega, show ¬ aW a i ≤ min (aW a j) (aW a i) by omega, if_true, if_false, m1_lt (show v < 2 ^ 31 by omega)]
      decide
    · simp only [c, Nat.min_self, Nat.le_refl, if_true, Int32.le_rfl]
      decide
    · obtain ⟨v, v1, -, v2⟩ := h.el4 hj j4 (i := min (aW a j) (aW a i)) (by omega)
      rw [v2]
      simp only [show ¬ aW a j = aW a i by omega, show aW a i ≤ aW a j by omega, show ¬ aW a j ≤ min (aW a j) (aW a i) by omega, show aW a i ≤ min (aW a j) (aW a i) by omega, if_true, if_false, m1_lt (show v < 2 ^ 31 by omega), m1_le (show v < 2 ^ 31 by omega)]
      decide
  | succ d ih =>
    intro f1 f2 k hk h1 h2
    obtain ⟨f1, rfl⟩ : ∃ n, f1 = n + 1 := ⟨f1 - 1, by omega⟩
    obtain ⟨f2, rfl⟩ : ∃ n, f2 = n + 1 := ⟨f2 - 1, by omega⟩
    obtain ⟨v, v1, v2, v3⟩ := h.el4 hj j4 (i := k) (by omega)
    obtain ⟨w, x1, x2, x3⟩ := h.el4 hi i4 (i := k) (by omega)
    have ih := ih f1 f2 (k + 1) (by omega) (by omega) (by omega)
    rw [pOrdL, qOrdL, hm, if_neg (nI_ge (by omega) (by omega)), h.l2 hj, h.l2 hi, if_neg (nI_ge (by omega) (by omega)), if_neg (nI_ge (by omega) (by omega)), v2, v3, x2, x3, qOfin, qOx, qOx, h.l2 hj, h.l2 hi, if_neg (nI_ge (by omega) (by omega)), if_neg (nI_ge (by omega) (by omega)), v3, x3, nI_1, ih]
    simp only [ord_1 (show v < 2 ^ 31 by omega) (show w < 2 ^ 31 by omega), nI_eq (show v < 2 ^ 31 by omega) (show w < 2 ^ 31 by omega), nI_leI (show v < 2 ^ 31 by omega) (show w < 2 ^ 31 by omega), nI_leI (show w < 2 ^ 31 by omega) (show v < 2 ^ 31 by omega)]
    by_cases c : v = w
    · rw [if_pos c, if_pos c]
    · rw [if_neg c, if_neg c, ord_eq (by omega) (by omega), if_neg c]
      by_cases c2 : w ≤ v
      · rw [if_pos c2, if_pos c2, if_neg (show ¬ v ≤ w by omega)]; decide
      · rw [if_neg c2, if_neg c2]; decide
theorem RelA.ord (h : RelA a t K S) (hj : j < aN a) (hi : i < aN a) (j4 : aK a j = 4) (i4 : aK a i = 4) : pOrdB t (nI j) (nI i) = 1 + qOrd S (nI j) (nI i) := by
  have w1 := h.w64 hj
  have w2 := h.w64 hi
  have hm : pMinL t (nI j) (nI i) = nI (min (aW a j) (aW a i)) := by
    rw [pMinL, h.l1 hj, h.l1 hi]
    simp only [nI_ltI (show aW a i < 2 ^ 31 by omega) (show aW a j < 2 ^ 31 by omega)]
    by_cases c : aW a i < aW a j
    · rw [if_pos c, Nat.min_eq_right (by omega)]
    · rw [if_neg c, Nat.min_eq_left (by omega)]
  rw [pOrdB, qOrd, hm, h.l2 hj, nI_toInt (by omega), nI_toInt (by omega)]
  exact h.ordL hj hi j4 i4 (min (aW a j) (aW a i)) _ _ 0 (by omega) (by omega) (by omega)
theorem RelA.rs (h : RelA a t K S) (hj : j < aN a) : pRStr t (nI j) = (decide (aK a j = 4) && !decide (qAcc S (nI j) < 2)) := by
  rw [pRStr]
  by_cases h4 : aK a j = 4
  · rw [h.acc hj (Or.inl (Or.inl h4)), decide_eq_true h4, decide_eq_true ((h.d4 hj).mpr h4)]
  · rw [decide_eq_false h4, decide_eq_false (fun e => h4 ((h.d4 hj).mp e)), Bool.false_and, Bool.false_and]
theorem RelA.compare (h : RelA a t K S) (x y : Int32) : pCompare t x y = fCompare S x y := by
  rw [pCompare, fCompare]
  rcases h.known x with ⟨j, hj, rfl, h1, h2⟩ | ⟨h1, h2⟩
  · rcases h.known y with ⟨i, hi, rfl, h3, h4⟩ | ⟨h3, h4⟩
    · simp only [h1, h2, h3, h4, h.d1 hj, h.d1 hi, h.m1 hj, h.m1 hi, h.m4 hj, h.m4 hi, h.rs hj, h.rs hi, Bool.true_eq_false, if_false, Bool.and_eq_true, decide_eq_true_eq, Bool.not_eq_true', decide_eq_false_iff_not]
      by_cases c1 : aK a j = 1 ∧ aK a i = 1
      · rw [if_pos c1, if_pos c1, h.n1 hj (Or.inl c1.1), h.n1 hi (Or.inl c1.2), h.n2 hj (Or.inl c1.1), h.n2 hi (Or.inl c1.2), pOrder]
        by_cases c2 : aU a j = aU a i
        · rw [if_pos c2, c2, if_pos Int32.le_rfl, if_pos Int32.le_rfl]
        · rw [if_neg c2]
          by_cases c3 : aU a i ≤ aU a j
          · rw [if_pos c3, if_pos c3, if_neg (fun q => c2 (Int32.le_antisymm q c3))]
          · rw [if_neg c3, if_neg c3]
      rw [if_neg c1, if_neg c1]
      by_cases c4 : aK a j = 4
      · by_cases c5 : aK a i = 4
        · by_cases c6 : qAcc S (nI j) < 2
          · simp [c4, c5, c6]
          · by_cases c7 : qAcc S (nI i) < 2
            · have c8 : ¬ 2 ≤ qAcc S (nI i) := Int32.not_le.mpr c7
              simp [c4, c5, c6, c7, c8]
            · have c8 : 2 ≤ qAcc S (nI i) := Int32.not_lt.mp c7
              rw [if_pos ⟨⟨c4, c6⟩, c5, c7⟩, if_neg (fun q => q c4), if_neg (fun q => q c5), if_neg c6, if_neg (fun q => q c8)]
              exact h.ord hj hi c4 c5
        · simp [c4, c5]
      · simp [c4]
    · simp [h1, h2, h3, h4]
  · simp [h1, h2]
end REL4
