/-! the reference's copy, make, restore, as functions -/
theorem ltN {N z : Nat} {M : Int32} (h : z < N) (hM : M = nI N) (hN : N < 2 ^ 31) : ¬ M ≤ nI z := by subst hM; exact nI_ge h hN
abbrev mCp1 (t : MS) (a b z : Nat) : MS := (t.1, (fun k => if k = 5 ∨ k = 6 ∨ k = 8 ∨ k = 9 ∨ k = 10 then va_cpy (t.2.1 k) (t.2.1 k) (100 * a) (100 * b) z else t.2.1 k), t.2.2)
abbrev mCp2 (t : MS) (a b z : Nat) : MS := (t.1, (fun k => if k = 7 ∨ k = 12 then va_cpy (t.2.1 k) (t.2.1 k) (3200 * a) (3200 * b) z else t.2.1 k), va_cpy t.2.2 t.2.2 (3200 * a) (3200 * b) z)
def fCopy (t : MS) (a b : Nat) : MS := mCp2 (mCp1 t a b 100) a b 3200
theorem cpy0 {α : Type} (f : Nat → α) (x y : Nat) : va_cpy f f x y 0 = f := by
  funext k
  unfold va_cpy
  rw [if_neg (by omega)]
/-- one more place: source and target are apart -/
theorem cpyS (f : Nat → Int32) (x y z w : Nat) (h : x + w ≤ y ∨ y + w ≤ x) (hz : z < w) (i v : Nat) (hi : i = y + z) (hv : v = x + z) : upd (va_cpy f f x y z) i (va_cpy f f x y z v) = va_cpy f f x y (z + 1) := by
  subst hi; subst hv
  funext k
  unfold va_cpy upd
  by_cases h1 : k = y + z
  · subst h1
    rw [if_pos rfl, if_neg (by omega), if_pos (by omega)]
    congr 1
    omega
  · rw [if_neg h1]
    dsimp only
    by_cases h2 : y ≤ k ∧ k < y + z
    · rw [if_pos h2, if_pos (by omega)]
    · rw [if_neg h2, if_neg (by omega)]
theorem cpyL (f : Nat → Int64) (x y z w : Nat) (h : x + w ≤ y ∨ y + w ≤ x) (hz : z < w) (i v : Nat) (hi : i = y + z) (hv : v = x + z) : vp_updL (va_cpy f f x y z) i (va_cpy f f x y z v) = va_cpy f f x y (z + 1) := by
  subst hi; subst hv
  funext k
  unfold va_cpy vp_updL
  by_cases h1 : k = y + z
  · subst h1
    rw [if_pos rfl, if_neg (by omega), if_pos (by omega)]
    congr 1
    omega
  · rw [if_neg h1]
    dsimp only
    by_cases h2 : y ≤ k ∧ k < y + z
    · rw [if_pos h2, if_pos (by omega)]
    · rw [if_neg h2, if_neg (by omega)]
theorem ixN {c w a z : Nat} {M : Int32} (hM : M = nI w) (h : w * a + z = c) (hc : c < 2 ^ 31) : (M * nI a + nI z).toNatClampNeg = c := by
  subst hM
  rw [pk_mul, nI_add, h, nI_clamp hc]
theorem ixI {c w a z N : Nat} {M : Int32} (hM : M = nI w) (h : w * a + z = c) (hc : c < N) (hN : N < 2 ^ 31) : vp_in (M * nI a + nI z) N := by
  subst hM
  rw [pk_mul, nI_add, h]
  exact vp_in_nI hc hN
theorem apart100 {w a b : Nat} (h : a ≠ b) : w * a + w ≤ w * b ∨ w * b + w ≤ w * a := by
  rcases Nat.lt_or_gt_of_ne h with q | q
  · left
    have := Nat.mul_le_mul_left w (show a + 1 ≤ b from q)
    rw [Nat.mul_add, Nat.mul_one] at this
    exact this
  · right
    have := Nat.mul_le_mul_left w (show b + 1 ≤ a from q)
    rw [Nat.mul_add, Nat.mul_one] at this
    exact this
theorem cp1S {t : MS} {a b z : Nat} (hab : a ≠ b) (hz : z < 100) (h4 : a < 4 ∧ b < 4) (h5 : ∀ j, vp_nar .boolean (mI t 5 j) = mI t 5 j) (h9 : ∀ j, vp_nar .boolean (mI t 9 j) = mI t 9 j) :
    mUp (mUp (mUp (mUp (mUp (mCp1 t a b z) 5 (100 * nI b + nI z) (vp_nar .boolean (mI (mCp1 t a b z) 5 (100 * nI a + nI z).toNatClampNeg))) 6 (100 * nI b + nI z) (mI (mCp1 t a b z) 6 (100 * nI a + nI z).toNatClampNeg)) 8 (100 * nI b + nI z) (mI (mCp1 t a b z) 8 (100 * nI a + nI z).toNatClampNeg)) 9 (100 * nI b + nI z) (vp_nar .boolean (mI (mCp1 t a b z) 9 (100 * nI a + nI z).toNatClampNeg))) 10 (100 * nI b + nI z) (mI (mCp1 t a b z) 10 (100 * nI a + nI z).toNatClampNeg) = mCp1 t a b (z + 1) := by
  have e1 : (100 * nI b + nI z).toNatClampNeg = 100 * b + z := ixN (w := 100) rfl rfl (by omega)
  have e2 : (100 * nI a + nI z).toNatClampNeg = 100 * a + z := ixN (w := 100) rfl rfl (by omega)
  have ap : 100 * a + 100 ≤ 100 * b ∨ 100 * b + 100 ≤ 100 * a := apart100 hab
  have nb : ∀ (f : Nat → Int32), (∀ j, vp_nar .boolean (f j) = f j) → ∀ j, vp_nar .boolean (va_cpy f f (100 * a) (100 * b) z j) = va_cpy f f (100 * a) (100 * b) z j := by
    intro f hf j
    unfold va_cpy
    split
    · exact hf _
    · exact hf _
  refine Prod.ext rfl (Prod.ext ?_ rfl)
  funext k
  by_cases k10 : k = 10
  · subst k10
    simp only [e1, e2]
    exact cpyS (t.2.1 10) _ _ z 100 ap hz _ _ rfl rfl
  · by_cases k9 : k = 9
    · subst k9
      simp only [e1, e2]
      have := cpyS (t.2.1 9) (100 * a) (100 * b) z 100 ap hz _ _ rfl rfl
      rw [← nb (t.2.1 9) h9] at this
      exact this
    · by_cases k8 : k = 8
      · subst k8
        simp only [e1, e2]
        exact cpyS (t.2.1 8) _ _ z 100 ap hz _ _ rfl rfl
      · by_cases k6 : k = 6
        · subst k6
          simp only [e1, e2]
          exact cpyS (t.2.1 6) _ _ z 100 ap hz _ _ rfl rfl
        · by_cases k5 : k = 5
          · subst k5
            simp only [e1, e2]
            have := cpyS (t.2.1 5) (100 * a) (100 * b) z 100 ap hz _ _ rfl rfl
            rw [← nb (t.2.1 5) h5] at this
            exact this
          · simp [k5, k6, k8, k9, k10]
theorem cp2S {t : MS} {a b z : Nat} (hab : a ≠ b) (hz : z < 3200) (h4 : a < 4 ∧ b < 4) :
    mUp (mUpJ (mUp (mCp2 t a b z) 7 (3200 * nI b + nI z) (mI (mCp2 t a b z) 7 (3200 * nI a + nI z).toNatClampNeg)) (3200 * nI b + nI z) (mJ (mCp2 t a b z) (3200 * nI a + nI z).toNatClampNeg)) 12 (3200 * nI b + nI z) (mI (mCp2 t a b z) 12 (3200 * nI a + nI z).toNatClampNeg) = mCp2 t a b (z + 1) := by
  have e1 : (3200 * nI b + nI z).toNatClampNeg = 3200 * b + z := ixN (w := 3200) rfl rfl (by omega)
  have e2 : (3200 * nI a + nI z).toNatClampNeg = 3200 * a + z := ixN (w := 3200) rfl rfl (by omega)
  have ap : 3200 * a + 3200 ≤ 3200 * b ∨ 3200 * b + 3200 ≤ 3200 * a := apart100 hab
  refine Prod.ext rfl (Prod.ext ?_ ?_)
  · funext k
    by_cases k12 : k = 12
    · subst k12
      simp only [e1, e2]
      exact cpyS (t.2.1 12) _ _ z 3200 ap hz _ _ rfl rfl
    · by_cases k7 : k = 7
      · subst k7
        simp only [e1, e2]
        exact cpyS (t.2.1 7) _ _ z 3200 ap hz _ _ rfl rfl
      · simp [k7, k12]
  · simp only [e1, e2]
    exact cpyL t.2.2 _ _ z 3200 ap hz _ _ rfl rfl
theorem cp1_0 (t : MS) (a b : Nat) : t = mCp1 t a b 0 := by
  refine Prod.ext rfl (Prod.ext ?_ rfl)
  funext k
  simp only [cpy0, ite_self]
theorem cp2_0 (t : MS) (a b : Nat) : t = mCp2 t a b 0 := by
  refine Prod.ext rfl (Prod.ext ?_ ?_)
  · funext k
    simp only [cpy0, ite_self]
  · exact (cpy0 _ _ _).symm
