/-! restore -/
section REL19
variable {a : AS} {t : OS} {K : Nat → Option (CA × CS)} {S : MS} {j : Nat}
theorem refRest {q : Nat} (hq : 1 ≤ q) (hq4 : q < 4) (T : MS) : (∀ k, k = 5 ∨ k = 6 ∨ k = 8 ∨ k = 9 ∨ k = 10 → ∀ j, mI (fCopy T q 0) k j = if j < 100 then mI T k (100 * q + j) else mI T k j) ∧ (∀ k, k = 7 ∨ k = 12 → ∀ j, mI (fCopy T q 0) k j = if j < 3200 then mI T k (3200 * q + j) else mI T k j) ∧ (∀ j, mJ (fCopy T q 0) j = if j < 3200 then mJ T (3200 * q + j) else mJ T j) ∧
    (∀ k, k = 0 ∨ k = 1 ∨ k = 2 ∨ k = 3 ∨ k = 4 ∨ k = 13 ∨ k = 14 → mI (fCopy T q 0) k = mI T k) := by
  have c1 : ∀ k, k = 5 ∨ k = 6 ∨ k = 8 ∨ k = 9 ∨ k = 10 → mI (fCopy T q 0) k = va_cpy (mI T k) (mI T k) (100 * q) (100 * 0) 100 := by
    intro k hk
    rcases hk with rfl | rfl | rfl | rfl | rfl <;> rfl
  have c2 : ∀ k, k = 7 ∨ k = 12 → mI (fCopy T q 0) k = va_cpy (mI T k) (mI T k) (3200 * q) (3200 * 0) 3200 := by
    intro k hk
    rcases hk with rfl | rfl <;> rfl
  have c3 : mJ (fCopy T q 0) = va_cpy (mJ T) (mJ T) (3200 * q) (3200 * 0) 3200 := rfl
  refine ⟨fun k hk j => ?_, fun k hk j => ?_, fun j => ?_, fun k hk => ?_⟩
  · rw [c1 k hk, va_cpy, Nat.mul_zero, Nat.sub_zero]
    simp
  · rw [c2 k hk, va_cpy, Nat.mul_zero, Nat.sub_zero]
    simp
  · rw [c3, va_cpy, Nat.mul_zero, Nat.sub_zero]
    simp
  · rcases hk with rfl | rfl | rfl | rfl | rfl | rfl | rfl <;> rfl
def aRst (a : AS) (j s : Nat) : AS := ((j, s), a.2)
theorem rs_row (t : OS) (x : Int32) (i k0 : Nat) (v : CS) : (∀ k, k < 5 → oR (rsF t x i k0 v) k = rCut (oR t k) i) ∧ oR (rsF t x i k0 v) 5 = rCut (oR t 5) k0 ∧ ∀ k, oR (rsF t x i k0 v) (6 + k) = cR v k := by
  refine ⟨fun k hk => ?_, rfl, fun k => ?_⟩
  · rcases (show k = 0 ∨ k = 1 ∨ k = 2 ∨ k = 3 ∨ k = 4 by omega) with rfl | rfl | rfl | rfl | rfl <;> rfl
  · show (if 6 + k = 4 then _ else if 6 + k = 3 then _ else if 6 + k = 2 then _ else if 6 + k = 1 then _ else if 6 + k = 0 then _ else if 6 + k < 6 then _ else v.1 (6 + k - 6)) = v.1 k
    rw [if_neg (by omega), if_neg (by omega), if_neg (by omega), if_neg (by omega), if_neg (by omega), if_neg (by omega), Nat.add_sub_cancel_left]
theorem rs_sc (t : OS) (x : Int32) (i k0 : Nat) (v : CS) : oCnt (rsF t x i k0 v) = x ∧ oSv (rsF t x i k0 v) = nu t x ∧ oSto (rsF t x i k0 v) = cSto v := ⟨rfl, rfl, rfl⟩
theorem mr_sc (S T : MS) (o us sv : Int32) : mMany (mSetSaves (mSetUsed (mSetMany T o) us) sv) = o ∧ mUsed (mSetSaves (mSetUsed (mSetMany T o) us) sv) = us ∧ mSaves (mSetSaves (mSetUsed (mSetMany T o) us) sv) = sv ∧ (∀ k, mI (mSetSaves (mSetUsed (mSetMany T o) us) sv) k = mI T k) ∧ mJ (mSetSaves (mSetUsed (mSetMany T o) us) sv) = mJ T := ⟨rfl, rfl, rfl, fun _ => rfl, rfl⟩
theorem RelA.rest (h : RelA a t K S) {s : Nat} (hs : s < aV a) {ca : CA} {b v : CS} (hK : K s = some (ca, b)) (hb : cBecP (oCt t) b v) {z : Nat} (hz : rF (oR t 3) (aSo a s) = nI z) (hz2 : z ≤ 64 * aSo a s) : RelA (aRst a (aSo a s) s) (rsF t (nI (aSo a s)) (aSo a s) z v) K (mSetSaves (mSetUsed (mSetMany (fCopy (mSetThr S 0) (s + 1) 0) (nI (aSo a s))) (mSu S (nI (s + 1)))) (nI (s + 1) - 1)) := by
  obtain ⟨b1, b2, b3, b4, b5, b6, b7, b8, b9, b10⟩ := h.bc
  obtain ⟨ca', b', c1, c2, c3, c4, c5, c6, c7, c8, c9, c10, z', c11, c12, c13⟩ := h.sv s hs
  cases hK.symm.trans c1
  have hn := h.le
  have hzz : z' = z := (nI_eq (by omega) (by omega)).mp (c12.symm.trans hz)
  subst hzz
  generalize hJ' : aSo a s = J at *
  obtain ⟨e5, e7, eJ, e0⟩ := refRest (q := s + 1) (by omega) (by omega) (mSetThr S 0)
  obtain ⟨m1, m2, m3, m4, m5⟩ := mr_sc S (fCopy (mSetThr S 0) (s + 1) 0) (nI J) (mSu S (nI (s + 1))) (nI (s + 1) - 1)
  generalize mSetSaves (mSetUsed (mSetMany (fCopy (mSetThr S 0) (s + 1) 0) (nI J)) (mSu S (nI (s + 1)))) (nI (s + 1) - 1) = S' at m1 m2 m3 m4 m5
  obtain ⟨w1, w5, w6⟩ := rs_row t (nI J) J z' v
  obtain ⟨u1, u2, u3⟩ := rs_sc t (nI J) J z' v
  generalize rsF t (nI J) J z' v = u at w1 w5 w6 u1 u2 u3
  have hbg : gdC b := h.kg s _ (by omega) hK
  obtain ⟨g1, g2, g3, g4, g5, g6⟩ := becC_G hb h.gdNow hbg (n := J) (by omega) c7 c8
  have S5 : ∀ k, k = 5 ∨ k = 6 ∨ k = 8 ∨ k = 9 ∨ k = 10 → ∀ i, mI S' k i = if i < 100 then mI S k (100 * (s + 1) + i) else mI S k i := fun k hk i => by rw [m4]; exact e5 k hk i
  have S7 : ∀ k, k = 7 ∨ k = 12 → ∀ i, mI S' k i = if i < 3200 then mI S k (3200 * (s + 1) + i) else mI S k i := fun k hk i => by rw [m4]; exact e7 k hk i
  have SJ : ∀ i, mJ S' i = if i < 3200 then mJ S (3200 * (s + 1) + i) else mJ S i := fun i => by rw [m5]; exact eJ i
  have S0 : ∀ k, k = 0 ∨ k = 1 ∨ k = 2 ∨ k = 3 ∨ k = 4 ∨ k = 13 ∨ k = 14 → mI S' k = mI S k := fun k hk => by rw [m4]; exact e0 k hk
  have z01 : ∀ i, i = 5 ∨ i = 9 → (∀ m, mI S i m = 0 ∨ mI S i m = 1) → ∀ m, mI S' i m = 0 ∨ mI S' i m = 1 := by
    intro i hi hzz m
    rw [S5 i (by omega) m]
    split
    · exact hzz _
    · exact hzz _
  have rF0 : ∀ k, k < 5 → rF (oR u k) = rF (oR t k) := fun k hk => by rw [w1 k hk]; rfl
  have rF5 : rF (oR u 5) = rF (oR t 5) := by rw [w5]; rfl
  have cut : ∀ (r : RV) (m i : Nat), gdR r m → gdR (rCut r i) m ∧ rZ (rCut r i) ≤ i ∧ rZ (rCut r i) ≤ rZ r := by
    intro r m i hr
    have hzc : rZ (rCut r i) = if rZ r ≤ i then rZ r else i := rfl
    have hle : rZ (rCut r i) ≤ rZ r := by rw [hzc]; split <;> omega
    refine ⟨⟨⟨hr.1.1, hr.1.2.1, Nat.le_trans hle hr.1.2.2⟩, hr.2⟩, by rw [hzc]; split <;> omega, hle⟩
  have nuj : nu t (nI J) = nI s := (rd_n (by omega)).trans c4
  have hag : ∀ n, agr a (aRst a J s) n := fun n i _ => ⟨rfl, rfl, rfl, rfl, rfl, rfl⟩
  have h11 : cR v 5 = oR u 11 := (w6 5).symm
  refine ⟨⟨u1, m1, Nat.zero_le _, by show J ≤ 100; omega, by rw [u2]; exact nuj, ?_, by show s ≤ 3; omega, ?_, z01 5 (by omega) b9, z01 9 (by omega) b10⟩, ⟨fun k hk h5 => ?_, ?_, ?_, by rw [← h11]; exact g1.2, by rw [← h11, g3]; exact c8⟩, fun i hi => ⟨h.sa (by have : i < J := hi; omega), ?_⟩, ?_, ?_, ?_, ?_, fun s' hs' => ?_, fun s1 s2 q1 q2 => h.inc s1 s2 q1 (by have : s2 < s := q2; omega), fun i hi e => ?_, h.kg⟩
  · rw [m3, ← nI_1, Int32.add_sub_cancel]; rfl
  · rw [u3, g6, m2, mSu, nI_clamp (by omega), c6]
  · rcases Nat.lt_or_ge k 5 with q | q
    · rw [w1 k q]
      have r := h.rw.1 k hk h5
      refine ⟨(cut _ _ _ r.1).1, ?_⟩
      show (if rZ (oR t k) ≤ J then rZ (oR t k) else J) = J
      rw [r.2, if_neg (by omega)]
    · obtain ⟨k', rfl⟩ : ∃ k', k = 6 + k' := ⟨k - 6, by omega⟩
      rw [w6]
      exact ⟨g1.1 k' (by omega), g2 k' (by omega)⟩
  · rw [w5]; exact (cut _ _ _ h.rw.2.1).1
  · rw [w5]; exact Nat.le_trans (cut _ _ z' h.rw.2.1).2.1 hz2
  · have hi : i < J := hi
    have := h.sj (j := i) (by omega)
    unfold stJ at this ⊢
    rw [rF0 0 (by omega), rF0 1 (by omega), rF0 2 (by omega), rF0 3 (by omega), rF0 4 (by omega), S0 0 (by omega), S0 1 (by omega), S0 2 (by omega), S0 3 (by omega)]
    exact this
  · intro o ho e k i hi
    have ho : o < J := ho
    rw [rF5, S0 4 (by omega)]
    exact h.byt o (by omega) e k i hi
  · refine (hag J).ord ?_
    rw [w5]
    have p1 := ordd_n (m := J) (by omega) h.os
    show ordd a (fun k => k = 4) J (if rZ (oR t 5) ≤ z' then rZ (oR t 5) else z')
    split
    · exact p1
    · exact c13
  · refine (hag J).ord ?_
    rw [← h11, g3]
    exact c10
  · have hNJ : aN (aRst a J s) = J := rfl
    rw [hNJ]
    refine (hag J).ch (Nat.le_refl _) ?_
    refine chR_x (x := cFn b) (Z := rZ (cR b 5)) (fun k hk i hi => ?_) (fun i hi => ?_) c10 ?_
    · show rF (oR u (6 + k)) i = rF (cR b k) i
      rw [w6]; exact g4 k hk i hi
    · show rF (oR u 11) i = rF (cR b 5) i
      rw [← h11]; exact g5 i hi
    · refine chR_q (S := S) (q := s + 1) (fun k hk i hi => ?_) (fun k hk i hi => ?_) (fun i hi => ?_) (fun i hi => h.sa (by omega)) c9
      · rw [S5 k hk, Nat.mul_zero, Nat.zero_add, if_pos (by omega)]
      · rw [S7 k hk, Nat.mul_zero, Nat.zero_add, if_pos (by omega)]
      · rw [SJ, Nat.mul_zero, Nat.zero_add, if_pos (by omega)]
  · have hs' : s' < s := hs'
    obtain ⟨ca2, b2', d1, d2, d3, d4, d5, d6, d7, d8, d9, d10, y, d11, d12, d13⟩ := h.sv s' (by omega)
    have dlt := h.inc s' s hs' hs
    rw [hJ'] at dlt
    refine ⟨ca2, b2', d1, dlt, d3, by rw [rF0 1 (by omega)]; exact d4, by rw [S0 13 (by omega)]; exact d5, by rw [S0 14 (by omega)]; exact d6, d7, d8, ?_, d10, y, d11, by rw [rF0 3 (by omega)]; exact d12, d13⟩
    refine chR_S (S := S) (fun k hk i hi => ?_) (fun k hk i hi => ?_) (fun i hi => ?_) (fun i hi => h.sa (by have : i < aSo a s' := hi; omega)) d9
    · rw [S5 k hk, if_neg (by omega)]
    · rw [S7 k hk, if_neg (by omega)]
    · rw [SJ, if_neg (by omega)]
  · have hi : i < J := hi
    obtain ⟨s', p1, p2⟩ := h.all (j := i) (by omega) e
    refine ⟨s', ?_, p2⟩
    show s' < s
    rcases Nat.lt_or_ge s' s with q | q
    · exact q
    · exfalso
      rcases Nat.eq_or_lt_of_le q with q | q
      · rw [← q, hJ'] at p2; omega
      · have := h.inc s s' q p1
        rw [hJ'] at this; omega
end REL19
