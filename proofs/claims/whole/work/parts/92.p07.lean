/-! same, keys, places, look -/
theorem i_m1 {x : Int32} (h : x = -1 ∨ ∃ v, v ≤ 999 ∧ x = nI v) : (0 ≤ x ↔ ¬ x = -1) := by
  rcases h with rfl | ⟨v, hv, rfl⟩
  · decide
  · exact ⟨fun _ => mI_n (y := 0) (by omega), fun _ => nI_pos' (by omega)⟩
theorem add1 {x : Int32} : 1 + x = 1 ↔ x = 0 := by
  constructor
  · intro h
    have h2 : x = (1 + x) - 1 := by rw [Int32.add_comm, Int32.add_sub_cancel]
    rw [h2, h]; decide
  · rintro rfl; decide
section REL7
variable {a : AS} {t : OS} {K : Nat → Option (CA × CS)} {S : MS} {j i : Nat}
theorem RelA.code4 (h : RelA a t K S) (hj : j < aN a) (h4 : aK a j = 4) : qCode S (nI j) = if 0 ≤ qName S (nI j) then qCoded 3 (qName S (nI j)) else -1 := by
  rw [qCode, if_neg (fun q => by rcases q with q | q; have := (h.m0 hj).mp q; omega; have := (h.m8 hj).mp q; omega), if_pos ((h.m4 hj).mpr h4)]
theorem aCd_k (h11 : aK a i ≤ 11) (i3 : aK a i ≠ 3) : ∃ k w, k ≤ 11 ∧ k ≠ 3 ∧ aCd a i = qCoded (nI k) w := by
  rw [aCd]
  split
  · exact ⟨_, _, h11, i3, rfl⟩
  · split
    · split
      · exact ⟨5, _, by omega, by omega, rfl⟩
      · exact ⟨_, _, h11, i3, rfl⟩
    · split
      · exact ⟨7, _, by omega, by omega, rfl⟩
      · split
        · exact ⟨11, _, by omega, by omega, rfl⟩
        · exact ⟨_, _, h11, i3, rfl⟩
theorem aCd_3 (i3 : aK a i = 3) : aCd a i = qCoded (nI 3) (aU a i) := by rw [aCd, if_neg (by omega), if_neg (by omega), if_neg (by omega), if_neg (by omega), i3]
/-- a readable string's name and the code of what is no string -/
theorem RelA.strObj (h : RelA a t K S) (hj : j < aN a) (hi : i < aN a) (j4 : aK a j = 4) (i4 : aK a i ≠ 4) : (¬ pName t (nI j) = -1 ∧ pName t (nI j) = pName t (nI i)) ↔ qCode S (nI j) = qCode S (nI i) := by
  obtain ⟨e1, e2⟩ := h.name4 hj j4
  have hI := h.sa hi
  rw [h.code4 hj j4, h.code hi i4, e1]
  by_cases hz : 0 ≤ qName S (nI j)
  · have hz1 := (i_m1 e2).mp hz
    rw [if_pos hz]
    by_cases i3 : aK a i = 3
    · rw [h.name3 hi i3, aCd_3 i3, show (3 : Int32) = nI 3 from rfl, cd_inj (by omega) (by omega)]
      exact ⟨fun q => ⟨rfl, q.2⟩, fun q => ⟨hz1, q.2⟩⟩
    · rw [h.name0 hi i3 i4]
      obtain ⟨k, w, k1, k2, k3⟩ := aCd_k hI.1 i3
      rw [k3, show (3 : Int32) = nI 3 from rfl, cd_inj (by omega) k1]
      exact ⟨fun q => absurd q.2 q.1, fun q => absurd q.1.symm k2⟩
  · have hz1 : qName S (nI j) = -1 := Classical.byContradiction (fun q => hz ((i_m1 e2).mpr q))
    rw [if_neg hz, hz1]
    constructor
    · intro q; exact absurd rfl q.1
    · intro q
      exact absurd (by rw [← q]; decide) (aCd_nn (k := 0) hI.1)
theorem RelA.same (h : RelA a t K S) (x y : Int32) : pSame t x y = fSame S x y := by
  rw [pSame, fSame]
  rcases h.known x with ⟨j, hj, rfl, h1, h2⟩ | ⟨h1, h2⟩
  · rcases h.known y with ⟨i, hi, rfl, h3, h4⟩ | ⟨h3, h4⟩
    · simp only [h1, h2, h3, h4, pAlike, h.d4 hj, h.d4 hi, h.m4 hj, h.m4 hi, h.rs hj, h.rs hi, Bool.true_eq_false, if_false, Bool.true_and]
      by_cases j4 : aK a j = 4
      · by_cases cj : qAcc S (nI j) < 2
        · by_cases i4 : aK a i = 4
          · simp [j4, i4, cj]
          · have e := h.name4 hj j4
            rw [qName_acc cj] at e
            simp [j4, i4, cj, e.1]
        · by_cases i4 : aK a i = 4
          · by_cases ci : qAcc S (nI i) < 2
            · have ci2 : ¬ 2 ≤ qAcc S (nI i) := Int32.not_le.mpr ci
              simp [j4, i4, cj, ci, ci2]
            · have ci2 : 2 ≤ qAcc S (nI i) := Int32.not_lt.mp ci
              rw [h.ord hj hi j4 i4]
              simp only [j4, i4, cj, ci, ci2, and_self, and_false, if_true, if_false, decide_true, decide_false, Bool.not_false, Bool.and_self, Bool.true_and, not_true_eq_false, add1]
          · have e := h.strObj hj hi j4 i4
            have hn := h.code4 hj j4
            simp only [j4, i4, cj, and_false, and_true, false_and, if_false, or_false, if_true, true_or]
            by_cases q : qCode S (nI j) = qCode S (nI i)
            · have q2 := e.mpr q
              have hp : ¬ qCode S (nI j) < 0 := by rw [q, h.code hi i4]; exact aCd_nn (k := 0) (h.sa hi).1
              rw [decide_eq_true q, decide_eq_false hp, decide_eq_true q2.2, decide_eq_false q2.1]
            · have q2 : ¬ (¬ pName t (nI j) = -1 ∧ pName t (nI j) = pName t (nI i)) := fun w => q (e.mp w)
              rw [decide_eq_false q, Bool.and_false]
              by_cases w : pName t (nI j) = -1
              · simp [w]
              · have w2 : ¬ pName t (nI j) = pName t (nI i) := fun w2 => q2 ⟨w, w2⟩
                simp [w2]
      · by_cases i4 : aK a i = 4
        · have e := h.strObj hi hj i4 j4
          have hp : ¬ qCode S (nI j) < 0 := by rw [h.code hj j4]; exact aCd_nn (k := 0) (h.sa hj).1
          by_cases ci : qAcc S (nI i) < 2
          · have ci2 : ¬ 2 ≤ qAcc S (nI i) := Int32.not_le.mpr ci
            have e2 := h.name4 hi i4
            rw [qName_acc ci] at e2
            simp only [j4, i4, false_and, ci2, not_false_eq_true, and_self, if_true, if_false, or_true]
            by_cases w : pName t (nI j) = -1
            · simp [w]
            · have w2 : ¬ pName t (nI j) = pName t (nI i) := by rw [e2.1]; exact w
              simp [w2]
          · have ci2 : 2 ≤ qAcc S (nI i) := Int32.not_lt.mp ci
            simp only [j4, i4, false_and, and_false, ci2, not_true_eq_false, if_false, or_true, if_true]
            rw [decide_eq_false hp, Bool.not_false, Bool.true_and]
            by_cases q : qCode S (nI j) = qCode S (nI i)
            · have q2 := e.mpr q.symm
              rw [decide_eq_true q, ← q2.2]
              simp [q2.1]
            · rw [decide_eq_false q]
              have q2 : ¬ (¬ pName t (nI i) = -1 ∧ pName t (nI i) = pName t (nI j)) := fun w => q (e.mp w).symm
              by_cases w : pName t (nI j) = -1
              · simp [w]
              · have w2 : ¬ pName t (nI j) = pName t (nI i) := fun w2 => q2 ⟨by rw [← w2]; exact w, w2.symm⟩
                simp [w2]
        · have hp : ¬ qCode S (nI j) < 0 := by rw [h.code hj j4]; exact aCd_nn (k := 0) (h.sa hj).1
          simp only [j4, i4, false_and, and_false, or_false, if_false]
          rw [decide_eq_false hp, Bool.not_false, Bool.true_and]
          have e := h.alikeB hj hi j4 i4
          rw [← h.code hj j4, ← h.code hi i4] at e
          by_cases q : qCode S (nI j) = qCode S (nI i)
          · rw [decide_eq_true q, e.mpr q]
          · rw [decide_eq_false q]
            cases w : pAlikeB t (nI j) (nI i)
            · rfl
            · exact absurd (e.mp w) q
    · simp [h1, h2, h3, h4]
  · simp [h1, h2]
/-- keys -/
theorem RelA.key (h : RelA a t K S) (hj : j < aN a) : (pKeyFor t (nI j) = -1 ∧ qKey S (nI j) = false) ∨ (qKey S (nI j) = true ∧ ¬ pKeyFor t (nI j) = -1 ∧ kyR a (aN a) (pKeyFor t (nI j)) (qCode S (nI j))) := by
  have hA := h.sa hj
  have hn := h.le
  rw [pKeyFor, qKey]
  simp only [h.d0 hj, h.d4 hj, h.d3 hj, h.m0 hj]
  by_cases k0 : aK a j = 0
  · left; simp [k0]
  rw [if_neg k0, decide_eq_false k0]
  by_cases k4 : aK a j = 4
  · rw [if_neg (fun q => q.1 k4), h.code4 hj k4]
    obtain ⟨e1, e2⟩ := h.name4 hj k4
    rw [e1]
    rcases e2 with e2 | ⟨v, hv, e2⟩
    · left
      rw [e2]
      exact ⟨if_pos rfl, by decide⟩
    · right
      rw [e2, if_neg (mI_n (y := 0) (by omega)), if_pos (nI_pos' (by omega)), show (100 : Int32) = nI 100 from rfl, nI_add, show (3 : Int32) = nI 3 from rfl]
      exact ⟨by rw [decide_eq_false (cd_nn (by omega) _)]; rfl, mI_n (y := 0) (by omega), Or.inl ⟨v, hv, rfl, rfl⟩⟩
  · right
    rw [h.code hj k4, decide_eq_false (aCd_nn (k := 0) hA.1)]
    by_cases k3 : aK a j = 3
    · obtain ⟨v, hv, e⟩ := hA.2.2.2.2.2.2.2.1 k3
      rw [if_neg (fun q => q.2 k3), h.name3 hj k3, e, if_neg (mI_n (y := 0) (by omega)), show (100 : Int32) = nI 100 from rfl, nI_add]
      exact ⟨rfl, mI_n (y := 0) (by omega), Or.inl ⟨v, hv, rfl, by rw [aCd_3 k3, e]; rfl⟩⟩
    · rw [if_pos ⟨k4, k3⟩]
      exact ⟨rfl, mI_n (y := 0) (by omega), Or.inr ⟨j, hj, k0, k3, k4, rfl, rfl⟩⟩
theorem RelA.alikeK (h : RelA a t K S) {n m : Nat} (hn : n ≤ aN a) (hm : m ≤ aN a) {c1 c2 : Int32} {d1 d2 : Int64} (r1 : kyR a n c1 d1) (r2 : kyR a m c2 d2) : pAlikeKeys t c1 c2 = true ↔ d1 = d2 := by
  have h100 := h.le
  have big : ∀ v, v ≤ 999 → (100 : Int32) ≤ nI (100 + v) := fun v hv => (nI_leI (a := 100) (b := 100 + v) (by omega) (by omega)).mpr (by omega)
  have sml : ∀ i, i < aN a → ¬ (100 : Int32) ≤ nI i := fun i hi q => by have := (nI_leI (a := 100) (b := i) (by omega) (by omega)).mp q; omega
  rcases r1 with ⟨v, hv, rfl, rfl⟩ | ⟨i, hi, i0, i3, i4, rfl, rfl⟩
  · rw [pAlikeKeys, if_pos (Or.inl (big v hv)), decide_eq_true_iff]
    rcases r2 with ⟨w, hw, rfl, rfl⟩ | ⟨j, hj, j0, j3, j4, rfl, rfl⟩
    · rw [nI_eq (by omega) (by omega), show (3 : Int32) = nI 3 from rfl, cd_inj (by omega) (by omega), nI_eq (by omega) (by omega)]
      omega
    · obtain ⟨k, w, k1, k2, k3⟩ := aCd_k (a := a) (i := j) (h.sa (by omega)).1 j3
      rw [nI_eq (by omega) (by omega), k3, show (3 : Int32) = nI 3 from rfl, cd_inj (by omega) k1]
      omega
  · rcases r2 with ⟨w, hw, rfl, rfl⟩ | ⟨j, hj, j0, j3, j4, rfl, rfl⟩
    · obtain ⟨k, u, k1, k2, k3⟩ := aCd_k (a := a) (i := i) (h.sa (by omega)).1 i3
      rw [pAlikeKeys, if_pos (Or.inr (big w hw)), decide_eq_true_iff, nI_eq (by omega) (by omega), k3, show (3 : Int32) = nI 3 from rfl, cd_inj k1 (by omega)]
      omega
    · rw [pAlikeKeys, if_neg (fun q => q.elim (sml i (by omega)) (sml j (by omega)))]
      exact h.alikeB (by omega) (by omega) i4 j4
/-- the place of a key -/
theorem RelA.placeL (h : RelA a t K S) (hj : j < aN a) (h7 : aK a j = 7) {e : Nat} (he32 : e ≤ 32) (he1 : rdN t (nI (aO a j)) = nI e) (he2 : mEn S (nI (aO a j)) = nI e) (hk : ∀ p, p < e → kyR a (aN a) (rF (oR t 11) (aB a j + p)) (mJ S (32 * aO a j + p))) {ck : Int32} {cd : Int64} (hc : kyR a (aN a) ck cd) : ∀ (d f1 f2 p : Nat), p + d = e → d < f1 → d < f2 →
    (pPlaceL t (nI j) ck f1 (nI p) = -1 ∧ qPlaceL S (nI (aO a j)) cd f2 (nI p) = -1) ∨ ∃ r, r < e ∧ pPlaceL t (nI j) ck f1 (nI p) = nI r ∧ qPlaceL S (nI (aO a j)) cd f2 (nI p) = nI (32 * aO a j + r) ∧ mJ S (32 * aO a j + r) = cd := by
  have hO := h.ol hj
  have hn := h.le
  have hA := h.sa hj
  have hF := (hA.2.2.2.2.2.2.1 (by unfold kView; omega)).1
  have hB := h.oe.1 (aO a j) hO hA.2.2.1 (by rw [hA.2.2.2.1]; exact Or.inr (Or.inr h7))
  rw [hA.2.2.2.2.1, aWd, if_pos (by rw [hA.2.2.2.1]; exact h7)] at hB
  have hZ : rZ (oR t 11) ≤ 64 * aN a := h.rw.2.2.2.2
  intro d
  induction d with
  | zero =>
    intro f1 f2 p hp h1 h2
    obtain ⟨f1, rfl⟩ : ∃ n, f1 = n + 1 := ⟨f1 - 1, by omega⟩
    obtain ⟨f2, rfl⟩ : ∃ n, f2 = n + 1 := ⟨f2 - 1, by omega⟩
    obtain rfl : p = e := by omega
    left
    rw [pPlaceL, qPlaceL, h.o1 hj, he1, he2, if_pos Int32.le_rfl, if_pos Int32.le_rfl]
    exact ⟨rfl, rfl⟩
  | succ d ih =>
    intro f1 f2 p hp h1 h2
    obtain ⟨f1, rfl⟩ : ∃ n, f1 = n + 1 := ⟨f1 - 1, by omega⟩
    obtain ⟨f2, rfl⟩ : ∃ n, f2 = n + 1 := ⟨f2 - 1, by omega⟩
    have hp2 : p < e := by omega
    have ec : rdE t (pKeyCell t (nI j) (nI p)) = rF (oR t 11) (aB a j + p) := by
      rw [pKeyCell, h.s1 hj (Or.inr h7), hF, Nat.add_zero, nI_add, rdE, rd_n (by omega)]
    have eq : mKe S (32 * nI (aO a j) + nI p) = mJ S (32 * aO a j + p) := by
      rw [show (32 : Int32) = nI 32 from rfl, pk_mul, nI_add, mKe, nI_clamp (by omega)]
    have hal := h.alikeK (Nat.le_refl _) (Nat.le_refl _) (hk p hp2) hc
    rw [pPlaceL, qPlaceL, h.o1 hj, he1, he2, if_neg (nI_ge hp2 (by omega)), if_neg (nI_ge hp2 (by omega)), ec, eq]
    by_cases q : mJ S (32 * aO a j + p) = cd
    · right
      rw [if_pos (hal.mpr q), if_pos q]
      exact ⟨p, hp2, rfl, by rw [show (32 : Int32) = nI 32 from rfl, pk_mul, nI_add], q⟩
    · rw [if_neg (fun w => q (hal.mp w)), if_neg q, nI_1]
      exact ih f1 f2 (p + 1) (by omega) (by omega) (by omega)
theorem RelA.place (h : RelA a t K S) (hj : j < aN a) (h7 : aK a j = 7) {ck : Int32} {cd : Int64} (hc : kyR a (aN a) ck cd) : ∃ e cp, dcR a S (aN a) 0 (cFn (oCt t)) (aO a j) ∧ e ≤ cp ∧ cp ≤ 32 ∧ rdN t (nI (aO a j)) = nI e ∧ mEn S (nI (aO a j)) = nI e ∧ rdC t (nI (aO a j)) = nI cp ∧ mCp S (nI (aO a j)) = nI cp ∧
    ((pPlaceOf t (nI j) ck = -1 ∧ qPlace S (nI (aO a j)) cd = -1) ∨ ∃ r, r < e ∧ pPlaceOf t (nI j) ck = nI r ∧ qPlace S (nI (aO a j)) cd = nI (32 * aO a j + r) ∧ mJ S (32 * aO a j + r) = cd) := by
  have hA := h.sa hj
  have hO := h.ol hj
  have hd := h.dc hj h7
  obtain ⟨e, cp, c1, c2, -, c3, c4, c5, c6, -, c7⟩ := id hd
  have e1 : rdN t (nI (aO a j)) = nI e := (rd_n (h.lt hO)).trans c5
  have e2 : mEn S (nI (aO a j)) = nI e := by rw [mEn, nI_clamp (h.lt hO), ← c6, Nat.mul_zero, Nat.zero_add]
  have e3 : rdC t (nI (aO a j)) = nI cp := (rd_n (h.lt hO)).trans c3
  have e4 : mCp S (nI (aO a j)) = nI cp := by rw [mCp, nI_clamp (h.lt hO), ← c4, Nat.mul_zero, Nat.zero_add]
  refine ⟨e, cp, hd, c1, c2, e1, e2, e3, e4, ?_⟩
  rw [pPlaceOf, qPlace, h.o1 hj, e1, e2, nI_toInt (by omega)]
  exact h.placeL hj h7 (by omega) e1 e2 (fun p hp => by have := (c7 p hp).2; rw [hA.2.2.2.2.1, Nat.mul_zero, Nat.zero_add] at this; exact this) hc e _ _ 0 (by omega) (by omega) (by omega)
theorem RelA.look (h : RelA a t K S) (x y : Int32) : pLook t x y = fLook S x y := by
  rw [pLook, fLook]
  rcases h.known x with ⟨j, hj, rfl, h1, h2⟩ | ⟨h1, h2⟩
  · rcases h.known y with ⟨i, hi, rfl, h3, h4⟩ | ⟨h3, h4⟩
    · simp only [h1, h2, h3, h4, h.d7 hj, h.m7 hj, Bool.true_eq_false, if_false]
      by_cases h7 : aK a j = 7
      · have n7 : ¬ ¬ aK a j = 7 := fun q => q h7
        rw [if_neg n7, if_neg n7, h.acc hj (Or.inr (Or.inl h7))]
        by_cases hc : qAcc S (nI j) < 2
        · rw [if_pos hc, if_pos hc]
        rw [if_neg hc, if_neg hc]
        rcases h.key hi with ⟨q1, q2⟩ | ⟨q1, q2, q3⟩
        · rw [if_pos q1, if_pos q2]
        · rw [if_neg q2, if_neg (show ¬ qKey S (nI i) = false by rw [q1]; decide), h.o2 hj (Or.inr h7)]
          obtain ⟨e, cp, hd, c1, c2, e1, e2, e3, e4, hp⟩ := h.place hj h7 q3
          have hO := h.ol hj
          have hn := h.le
          rcases hp with ⟨p1, p2⟩ | ⟨r, hr, p1, p2, -⟩
          · rw [p1, p2, if_pos rfl, if_neg (by decide)]
          · rw [p1, p2, if_neg (mI_n (y := 0) (by omega)), if_pos (nI_pos' (by omega))]
            have hA := h.sa hj
            have hF := (hA.2.2.2.2.2.2.1 (by unfold kView; omega)).1
            have hB := h.oe.1 (aO a j) hO hA.2.2.1 (by rw [hA.2.2.2.1]; exact Or.inr (Or.inr h7))
            rw [hA.2.2.2.2.1, aWd, if_pos (by rw [hA.2.2.2.1]; exact h7)] at hB
            have hZ : rZ (oR t 11) ≤ 64 * aN a := h.rw.2.2.2.2
            obtain ⟨e', cp', b1, b2, -, -, -, c5, -, -, c7⟩ := hd
            have ee : e' = e := (nI_eq (by omega) (by omega)).mp (c5.symm.trans ((rd_n (h.lt hO)).symm.trans e1))
            have := (c7 r (by omega)).1
            rw [hA.2.2.2.2.1, Nat.mul_zero, Nat.zero_add] at this
            rw [pValCell, h.s1 hj (Or.inr h7), hF, Nat.add_zero, show (32 : Int32) = nI 32 from rfl, nI_add, nI_add, rdE, rd_n (by omega), mVa, nI_clamp (by omega)]
            exact this
      · rw [if_pos h7, if_pos h7]
    · simp [h1, h2, h3, h4]
  · simp [h1, h2]
end REL7
