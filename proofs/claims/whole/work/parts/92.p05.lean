/-! the names that strings are -/
theorem dig_ok : ∀ b, b < 256 → pWithin (nI b - 48) 9 = decide (48 ≤ b ∧ b ≤ 57) := by decide +kernel
abbrev nDig (b : Nat) : Prop := 48 ≤ b ∧ b ≤ 57
section REL5
variable {a : AS} {t : OS} {K : Nat → Option (CA × CS)} {S : MS} {j : Nat}
theorem pT_end {x : Int32} {L n : Nat} {v : Int32} (hL : len t x = nI L) : pTenL t x (n + 1) (nI L) v = v := by rw [pTenL, hL, if_pos Int32.le_rfl]
theorem qT_end {x : Int32} {L n : Nat} {v : Int32} (hL : mL S x = nI L) : qNameL S x (n + 1) (nI L) v = v := by rw [qNameL, hL, if_pos Int32.le_rfl]
theorem pT_bad {x : Int32} {L n i v b : Nat} (hL : len t x = nI L) (hi : i < L) (hl : L < 100) (hb : b < 256) (he : pEl t x (nI i) = nI b) (h : ¬ nDig b ∨ (0 < i ∧ v = 0)) (hv : v < 10000) : pTenL t x (n + 1) (nI i) (nI v) = -1 := by
  rw [pTenL, hL, if_neg (nI_ge hi (by omega)), he, dig_ok b hb, if_pos]
  rcases h with h | ⟨h1, h2⟩
  · left; exact decide_eq_false h
  · right
    subst h2
    exact ⟨by rw [show (0 : Int32) = nI 0 from rfl]; exact (nI_ltI (by omega) (by omega)).mpr h1, rfl⟩
theorem pT_go {x : Int32} {L n i v b : Nat} (hL : len t x = nI L) (hi : i < L) (hl : L < 100) (hb : b < 256) (he : pEl t x (nI i) = nI b) (h : nDig b) (h2 : i = 0 ∨ v ≠ 0) (hv : v < 10000) : pTenL t x (n + 1) (nI i) (nI v) = pTenL t x n (nI (i + 1)) (nI (v * 10 + (b - 48))) := by
  rw [pTenL, hL, if_neg (nI_ge hi (by omega)), he, dig_ok b hb, if_neg, nI_1, show (10 : Int32) = nI 10 from rfl, show (48 : Int32) = nI 48 from rfl, pk_mul, pk_sub h.1, nI_add]
  rintro (q | ⟨q1, q2⟩)
  · rw [decide_eq_true h] at q; cases q
  · rw [show (0 : Int32) = nI 0 from rfl, nI_ltI (by omega) (by omega)] at q1
    rw [show (0 : Int32) = nI 0 from rfl, nI_eq (by omega) (by omega)] at q2
    omega
theorem qT_bad {x : Int32} {L n i b : Nat} {v : Int32} (hL : mL S x = nI L) (hi : i < L) (hl : L < 100) (hb : b < 256) (he : qByte S x (nI i) = nI b) (h : ¬ nDig b) : qNameL S x (n + 1) (nI i) v = -1 := by
  rw [qNameL, hL, if_neg (nI_ge hi (by omega)), he, show (48 : Int32) = nI 48 from rfl, show (57 : Int32) = nI 57 from rfl]
  simp only [nI_ltI (show b < 2 ^ 31 by omega) (show 48 < 2 ^ 31 by omega), nI_ltI (show 57 < 2 ^ 31 by omega) (show b < 2 ^ 31 by omega)]
  by_cases c : b < 48
  · rw [if_pos c]
  · rw [if_neg c, if_pos (by unfold nDig at h; omega)]
theorem qT_go {x : Int32} {L n i v b : Nat} (hL : mL S x = nI L) (hi : i < L) (hl : L < 100) (hb : b < 256) (he : qByte S x (nI i) = nI b) (h : nDig b) : qNameL S x (n + 1) (nI i) (nI v) = qNameL S x n (nI (i + 1)) (nI (v * 10 + (b - 48))) := by
  unfold nDig at h
  rw [qNameL, hL, if_neg (nI_ge hi (by omega)), he, show (48 : Int32) = nI 48 from rfl, show (57 : Int32) = nI 57 from rfl]
  simp only [nI_ltI (show b < 2 ^ 31 by omega) (show 48 < 2 ^ 31 by omega), nI_ltI (show 57 < 2 ^ 31 by omega) (show b < 2 ^ 31 by omega)]
  rw [if_neg (by omega), if_neg (by omega), nI_1, show (10 : Int32) = nI 10 from rfl, pk_mul, nI_add, pk_sub (by omega), show 10 * v + b - 48 = v * 10 + (b - 48) by omega]
theorem nDig_dec (b : Nat) : nDig b ∨ ¬ nDig b := Classical.em _
theorem RelA.tens (h : RelA a t K S) (hj : j < aN a) (h4 : aK a j = 4) (hc : ¬ qAcc S (nI j) < 2) : pTens t (nI j) = qName S (nI j) ∧ (qName S (nI j) = -1 ∨ ∃ v, v ≤ 999 ∧ qName S (nI j) = nI v) := by
  have hw := h.w64 hj
  have e1 := h.l1 hj
  have e2 := h.l2 hj
  have c1 : nI (aW a j) < 1 ↔ aW a j < 1 := nI_ltI (a := aW a j) (b := 1) (by omega) (by omega)
  have c3 : 3 < nI (aW a j) ↔ 3 < aW a j := nI_ltI (a := 3) (b := aW a j) (by omega) (by omega)
  have c4 : nI (aW a j) ≤ 1 ↔ aW a j ≤ 1 := nI_leI (a := aW a j) (b := 1) (by omega) (by omega)
  rw [pTens, qName, e1, e2, nI_toInt (by omega)]
  simp only [c1, c3, c4, hc, if_false]
  by_cases b1 : aW a j < 1
  · simp [b1]
  by_cases b3 : 3 < aW a j
  · simp [b3]
  rw [if_neg b1, if_neg b3, if_neg b1, if_neg b3]
  obtain ⟨d0, p0, u0, v0⟩ := h.el4 hj h4 (i := 0) (by omega)
  have u0 : pEl t (nI j) (nI 0) = nI d0 := u0
  have v0 : qByte S (nI j) (nI 0) = nI d0 := v0
  have v00 : qByte S (nI j) 0 = nI d0 := v0
  have c5 : nI d0 = 48 ↔ d0 = 48 := nI_eq (a := d0) (b := 48) (by omega) (by omega)
  rw [v00]
  simp only [c5]
  show pTenL t (nI j) ((aW a j : Int).toNat + 1) (nI 0) (nI 0) = (if ¬ aW a j ≤ 1 ∧ d0 = 48 then -1 else qNameL S (nI j) ((aW a j : Int).toNat + 1) (nI 0) (nI 0)) ∧ ((if ¬ aW a j ≤ 1 ∧ d0 = 48 then -1 else qNameL S (nI j) ((aW a j : Int).toNat + 1) (nI 0) (nI 0)) = -1 ∨ ∃ v, v ≤ 999 ∧ (if ¬ aW a j ≤ 1 ∧ d0 = 48 then -1 else qNameL S (nI j) ((aW a j : Int).toNat + 1) (nI 0) (nI 0)) = nI v)
  rw [Int.toNat_natCast]
  rcases (show aW a j = 1 ∨ aW a j = 2 ∨ aW a j = 3 by omega) with w | w | w
  · rw [w] at e1 e2
    rw [w, if_neg (by omega)]
    rcases nDig_dec d0 with n0 | n0
    · rw [pT_go e1 (by omega) (by omega) p0 u0 n0 (Or.inl rfl) (by omega), qT_go e2 (by omega) (by omega) p0 v0 n0, pT_end e1, qT_end e2]
      exact ⟨rfl, Or.inr ⟨_, by unfold nDig at n0; omega, rfl⟩⟩
    · rw [pT_bad e1 (by omega) (by omega) p0 u0 (Or.inl n0) (by omega), qT_bad e2 (by omega) (by omega) p0 v0 n0]
      exact ⟨rfl, Or.inl rfl⟩
  · obtain ⟨d1, p1, u1, v1⟩ := h.el4 hj h4 (i := 1) (by omega)
    rw [w] at e1 e2
    rw [w]
    rcases nDig_dec d0 with n0 | n0
    · rw [pT_go e1 (by omega) (by omega) p0 u0 n0 (Or.inl rfl) (by omega)]
      by_cases z : d0 = 48
      · rw [pT_bad e1 (by omega) (by omega) p1 u1 (Or.inr ⟨by omega, by omega⟩) (by omega), if_pos ⟨by omega, z⟩]
        exact ⟨rfl, Or.inl rfl⟩
      rw [if_neg (fun q => z q.2), qT_go e2 (by omega) (by omega) p0 v0 n0]
      rcases nDig_dec d1 with n1 | n1
      · rw [pT_go e1 (by omega) (by omega) p1 u1 n1 (Or.inr (by unfold nDig at n0; omega)) (by unfold nDig at n0; omega), qT_go e2 (by omega) (by omega) p1 v1 n1, pT_end e1, qT_end e2]
        exact ⟨rfl, Or.inr ⟨_, by unfold nDig at n0 n1; omega, rfl⟩⟩
      · rw [pT_bad e1 (by omega) (by omega) p1 u1 (Or.inl n1) (by unfold nDig at n0; omega), qT_bad e2 (by omega) (by omega) p1 v1 n1]
        exact ⟨rfl, Or.inl rfl⟩
    · rw [pT_bad e1 (by omega) (by omega) p0 u0 (Or.inl n0) (by omega), if_neg (fun q => n0 (by rw [q.2]; exact ⟨by omega, by omega⟩)), qT_bad e2 (by omega) (by omega) p0 v0 n0]
      exact ⟨rfl, Or.inl rfl⟩
  · obtain ⟨d1, p1, u1, v1⟩ := h.el4 hj h4 (i := 1) (by omega)
    obtain ⟨d2, p2, u2, v2⟩ := h.el4 hj h4 (i := 2) (by omega)
    rw [w] at e1 e2
    rw [w]
    rcases nDig_dec d0 with n0 | n0
    · rw [pT_go e1 (by omega) (by omega) p0 u0 n0 (Or.inl rfl) (by omega)]
      by_cases z : d0 = 48
      · rw [pT_bad e1 (by omega) (by omega) p1 u1 (Or.inr ⟨by omega, by omega⟩) (by omega), if_pos ⟨by omega, z⟩]
        exact ⟨rfl, Or.inl rfl⟩
      rw [if_neg (fun q => z q.2), qT_go e2 (by omega) (by omega) p0 v0 n0]
      rcases nDig_dec d1 with n1 | n1
      · rw [pT_go e1 (by omega) (by omega) p1 u1 n1 (Or.inr (by unfold nDig at n0; omega)) (by unfold nDig at n0; omega), qT_go e2 (by omega) (by omega) p1 v1 n1]
        rcases nDig_dec d2 with n2 | n2
        · rw [pT_go e1 (by omega) (by omega) p2 u2 n2 (Or.inr (by unfold nDig at n0; omega)) (by unfold nDig at n0 n1; omega), qT_go e2 (by omega) (by omega) p2 v2 n2, pT_end e1, qT_end e2]
          exact ⟨rfl, Or.inr ⟨_, by unfold nDig at n0 n1 n2; omega, rfl⟩⟩
        · rw [pT_bad e1 (by omega) (by omega) p2 u2 (Or.inl n2) (by unfold nDig at n0 n1; omega), qT_bad e2 (by omega) (by omega) p2 v2 n2]
          exact ⟨rfl, Or.inl rfl⟩
      · rw [pT_bad e1 (by omega) (by omega) p1 u1 (Or.inl n1) (by unfold nDig at n0; omega), qT_bad e2 (by omega) (by omega) p1 v1 n1]
        exact ⟨rfl, Or.inl rfl⟩
    · rw [pT_bad e1 (by omega) (by omega) p0 u0 (Or.inl n0) (by omega), if_neg (fun q => n0 (by rw [q.2]; exact ⟨by omega, by omega⟩)), qT_bad e2 (by omega) (by omega) p0 v0 n0]
      exact ⟨rfl, Or.inl rfl⟩
theorem qName_acc {x : Int32} (hc : qAcc S x < 2) : qName S x = -1 := by
  rw [qName]
  split
  · rfl
  · split
    · rfl
    · split
      · rfl
      · rfl
/-- the name of a NAME or of a STRING -/
theorem RelA.name4 (h : RelA a t K S) (hj : j < aN a) (h4 : aK a j = 4) : pName t (nI j) = qName S (nI j) ∧ (qName S (nI j) = -1 ∨ ∃ v, v ≤ 999 ∧ qName S (nI j) = nI v) := by
  rw [pName, if_neg (fun e => by have := (h.d3 hj).mp e; omega), h.rs hj]
  by_cases hc : qAcc S (nI j) < 2
  · rw [qName_acc hc]
    simp [hc]
  · obtain ⟨e1, e2⟩ := h.tens hj h4 hc
    rw [← e1] at e2
    simp only [h4, hc, decide_true, decide_false, Bool.not_false, Bool.and_self, if_true]
    rw [← e1]
    exact ⟨rfl, e2⟩
theorem RelA.name3 (h : RelA a t K S) (hj : j < aN a) (h3 : aK a j = 3) : pName t (nI j) = aU a j := by rw [pName, if_pos ((h.d3 hj).mpr h3), h.n1 hj (Or.inr (Or.inr (Or.inl h3)))]
theorem RelA.name0 (h : RelA a t K S) (hj : j < aN a) (h3 : aK a j ≠ 3) (h4 : aK a j ≠ 4) : pName t (nI j) = -1 := by
  rw [pName, if_neg (fun e => h3 ((h.d3 hj).mp e)), h.rs hj]
  simp [h4]
end REL5
