/-! one more object -/
def agr (a a' : AS) (n : Nat) : Prop := ∀ j, j < n → aK a' j = aK a j ∧ aO a' j = aO a j ∧ aF a' j = aF a j ∧ aW a' j = aW a j ∧ aB a' j = aB a j ∧ aU a' j = aU a j
section REL13
variable {a a' : AS} {t t' : OS} {K K' : Nat → Option (CA × CS)} {S S' : MS} {j n m q Z : Nat} {x : Nat → Nat → Int32} {P : Nat → Prop}
theorem agr.sa (h : agr a a' n) (hj : j < n) (hA : stA a j) : stA a' j := by
  obtain ⟨e1, e2, e3, e4, e5, e6⟩ := h j hj
  obtain ⟨g1, g2, g3, g4, g5, g6⟩ := h (aO a j) (by have := hA.2.1; omega)
  unfold stA
  rw [e1, e2, e3, e4, e5, e6, g1, g2, g3, g4, g5]
  exact hA
theorem agr.cd (h : agr a a' n) (hj : j < n) : aCd a' j = aCd a j := by
  obtain ⟨e1, e2, e3, e4, e5, e6⟩ := h j hj
  rw [aCd, aCd, e1, e2, e3, e4, e6]
theorem agr.wd (h : agr a a' n) (hj : j < n) : aWd a' j = aWd a j := by
  obtain ⟨e1, e2, e3, e4, e5, e6⟩ := h j hj
  rw [aWd, aWd, e1, e4]
theorem agr.mono (h : agr a a' n) (hm : m ≤ n) : agr a a' m := fun j hj => h j (by omega)
theorem agr.ord (h : agr a a' n) (ho : ordd a P n Z) : ordd a' P n Z := by
  refine ⟨fun o h1 h2 h3 => ?_, fun o o' h1 h2 h3 h4 h5 h6 => ?_⟩
  · obtain ⟨e1, e2, e3, e4, e5, e6⟩ := h o h1
    rw [e5, h.wd h1]
    exact ho.1 o h1 (by rw [← e2]; exact h2) (by rw [← e1]; exact h3)
  · obtain ⟨e1, e2, e3, e4, e5, e6⟩ := h o (by omega)
    obtain ⟨g1, g2, g3, g4, g5, g6⟩ := h o' h2
    rw [e5, g5, h.wd (by omega)]
    exact ho.2 o o' h1 h2 (by rw [← e2]; exact h3) (by rw [← g2]; exact h4) (by rw [← e1]; exact h5) (by rw [← g1]; exact h6)
theorem agr.ky (h : agr a a' n) {m' : Nat} (hm : m ≤ n) (hm' : m ≤ m') {ck : Int32} {cd : Int64} (r : kyR a m ck cd) : kyR a' m' ck cd := by
  rcases r with ⟨v, w1, w2, w3⟩ | ⟨i, w0, w1, w2, w3, w4, w5⟩
  · exact Or.inl ⟨v, w1, w2, w3⟩
  · obtain ⟨e1, -⟩ := h i (by omega)
    exact Or.inr ⟨i, by omega, by rw [e1]; exact w1, by rw [e1]; exact w2, by rw [e1]; exact w3, w4, by rw [h.cd (by omega)]; exact w5⟩
theorem agr.chJ (h : agr a a' n) {m' : Nat} (hm : m ≤ n) (hm' : m ≤ m') (hj : j < n) (hc : chJ a S m q x j) : chJ a' S m' q x j := by
  obtain ⟨e1, e2, e3, e4, e5, e6⟩ := h j hj
  obtain ⟨c0, c1, c2, c3, c4, c5⟩ := hc
  refine ⟨c0, fun k => c1 (by rw [← e1]; exact k), fun k1 k2 k3 => c2 (by rw [← e1]; exact k1) (by rw [← e1]; exact k2) (by rw [← e1]; exact k3), fun k => c3 (by rw [← e1]; exact k), fun o k i hi => by rw [e5]; exact c4 (by rw [← e2]; exact o) (by rw [← e1]; exact k) i (by rw [← e4]; exact hi), fun o k => ?_⟩
  obtain ⟨e, cp, d1, d2, d3, d4, d5, d6, d7, d8, d9⟩ := c5 (by rw [← e2]; exact o) (by rw [← e1]; exact k)
  refine ⟨e, cp, d1, d2, d3, d4, d5, d6, d7, d8, fun p hp => ?_⟩
  rw [e5]
  exact ⟨(d9 p hp).1, h.ky hm hm' (d9 p hp).2⟩
theorem agr.ch (h : agr a a' n) (hm : m ≤ n) (hc : chR a S m q x) : chR a' S m q x := fun j hj => h.chJ hm (Nat.le_refl _) (by omega) (hc j hj)
/-- a save that stays -/
theorem svR_app {s : Nat} (hn : aN a ≤ 100) (hA : ∀ j, j < aN a → stA a j) (hag : agr a a' (aN a)) (hN : aN a ≤ aN a') (hso : aSo a' s = aSo a s) (hK : K' s = K s) (h1 : ∀ j, j < aN a → rF (oR t' 1) j = rF (oR t 1) j) (h3 : ∀ j, j < aN a → rF (oR t' 3) j = rF (oR t 3) j)
    (h5 : ∀ k, k = 5 ∨ k = 6 ∨ k = 8 ∨ k = 9 ∨ k = 10 → ∀ j, 100 * (s + 1) ≤ j → j < 100 * (s + 2) → mI S' k j = mI S k j) (h7 : ∀ k, k = 7 ∨ k = 12 → ∀ i, 3200 * (s + 1) ≤ i → i < 3200 * (s + 2) → mI S' k i = mI S k i) (hJ : ∀ i, 3200 * (s + 1) ≤ i → i < 3200 * (s + 2) → mJ S' i = mJ S i) (h13 : mI S' 13 (s + 1) = mI S 13 (s + 1)) (h14 : mI S' 14 (s + 1) = mI S 14 (s + 1)) (h : svR a t K S s) : svR a' t' K' S' s := by
  obtain ⟨ca, b, c1, c2, c3, c4, c5, c6, c7, c8, c9, c10, z, c11, c12, c13⟩ := h
  have hag' := hag.mono (Nat.le_of_lt c2)
  refine ⟨ca, b, hK.trans c1, by rw [hso]; omega, by rw [hso, (hag _ c2).1]; exact c3, by rw [hso, h1 _ c2]; exact c4, by rw [h13, hso]; exact c5, by rw [h14]; exact c6, by rw [hso]; exact c7, by rw [hso]; exact c8, ?_, by rw [hso]; exact hag'.ord c10, z, by rw [hso]; exact c11, by rw [hso, h3 _ c2]; exact c12, by rw [hso]; exact hag'.ord c13⟩
  rw [hso]
  exact chR_S (S := S) (fun k hk j hj => h5 k hk _ (by omega) (by omega)) (fun k hk i hi => h7 k hk _ (by omega) (by omega)) (fun i hi => hJ _ (by omega) (by omega)) (fun j hj => hag.sa (by omega) (hA j (by omega))) (hag'.ch (Nat.le_refl _) c9)
theorem RelA.app (h : RelA a t K S) (hn : aN a < 100) (hag : agr a a' (aN a)) (hN : aN a' = aN a + 1) (bc : bcR a' t' S') (rw : rwR a' t')
    (hT : ∀ k, k < 5 → ∀ j, j < aN a → rF (oR t' k) j = rF (oR t k) j) (hT6 : ∀ k, k < 5 → ∀ j, j < aN a → rF (oR t' (6 + k)) j = rF (oR t (6 + k)) j) (hT5 : ∀ i, i < rZ (oR t 5) → rF (oR t' 5) i = rF (oR t 5) i) (hT11 : ∀ i, i < rZ (oR t 11) → rF (oR t' 11) i = rF (oR t 11) i) (z5 : rZ (oR t 5) ≤ rZ (oR t' 5)) (z11 : rZ (oR t 11) ≤ rZ (oR t' 11))
    (hS : ∀ k, k < 4 → ∀ j, j < aN a → mI S' k j = mI S k j) (hS4 : ∀ i, i < 64 * aN a → mI S' 4 i = mI S 4 i) (hSc : ∀ k, k = 5 ∨ k = 6 ∨ k = 8 ∨ k = 9 ∨ k = 10 → ∀ j, j < aN a → mI S' k j = mI S k j) (hSe : ∀ k, k = 7 ∨ k = 12 → ∀ i, i < 32 * aN a → mI S' k i = mI S k i) (hJ : ∀ i, i < 32 * aN a → mJ S' i = mJ S i)
    (nA : stA a' (aN a)) (nJ : stJ a' t' S' (aN a)) (nB : aO a' (aN a) = aN a → aK a' (aN a) = 4 → ∀ i, i < aW a' (aN a) → ∃ v, v < 256 ∧ rF (oR t' 5) (aB a' (aN a) + i) = nI v ∧ mI S' 4 (64 * aN a + i) &&& 255 = nI v)
    (nO : aO a' (aN a) = aN a → aK a' (aN a) = 4 → rZ (oR t 5) ≤ aB a' (aN a) ∧ aB a' (aN a) + aWd a' (aN a) ≤ rZ (oR t' 5)) (nE : aO a' (aN a) = aN a → kElm (aK a' (aN a)) → rZ (oR t 11) ≤ aB a' (aN a) ∧ aB a' (aN a) + aWd a' (aN a) ≤ rZ (oR t' 11)) (nC : chJ a' S' (aN a') 0 (cFn (oCt t')) (aN a))
    (sv : ∀ s, s < aV a' → svR a' t' K' S' s) (inc : ∀ s s', s < s' → s' < aV a' → aSo a' s < aSo a' s') (all : ∀ j, j < aN a' → aK a' j = 11 → ∃ s, s < aV a' ∧ aSo a' s = j) (kg : ∀ s q, s < 3 → K' s = some q → gdC q.2) : RelA a' t' K' S' := by
  have lst : ∀ j, j < aN a' → j < aN a ∨ j = aN a := fun j hj => by omega
  have ordN : ∀ (P : Nat → Prop) (Z Z' : Nat), Z ≤ Z' → ordd a P (aN a) Z → (aO a' (aN a) = aN a → P (aK a' (aN a)) → Z ≤ aB a' (aN a) ∧ aB a' (aN a) + aWd a' (aN a) ≤ Z') → ordd a' P (aN a') Z' := by
    intro P Z Z' hZ ho hnew
    have ho' := hag.ord ho
    refine ⟨fun o h1 h2 h3 => ?_, fun o o' h1 h2 h3 h4 h5 h6 => ?_⟩
    · rcases lst o h1 with c | c
      · exact Nat.le_trans (ho'.1 o c h2 h3) hZ
      · subst c; exact (hnew h2 h3).2
    · rcases lst o' h2 with c | c
      · exact ho'.2 o o' h1 c h3 h4 h5 h6
      · subst c
        exact Nat.le_trans (ho'.1 o h1 h3 h5) (hnew h4 h6).1
  refine ⟨bc, rw, fun j hj => ?_, ?_, ordN _ _ _ z5 h.os (fun q1 q2 => nO q1 q2), ordN _ _ _ z11 h.oe nE, fun j hj => ?_, sv, inc, all, kg⟩
  · rcases lst j hj with c | c
    · obtain ⟨e1, e2, e3, e4, e5, e6⟩ := hag j c
      refine ⟨hag.sa c (h.sa c), ?_⟩
      have := h.sj c
      unfold stJ at this ⊢
      rw [hT 0 (by omega) j c, hT 1 (by omega) j c, hT 2 (by omega) j c, hT 3 (by omega) j c, hT 4 (by omega) j c, hS 0 (by omega) j c, hS 1 (by omega) j c, hS 2 (by omega) j c, hS 3 (by omega) j c, e1, e2, e3, e4, e5, e6]
      exact this
    · subst c; exact ⟨nA, nJ⟩
  · intro o ho e k i hi
    rcases lst o ho with c | c
    · obtain ⟨e1, e2, e3, e4, e5, e6⟩ := hag o c
      have hw := h.w64 c
      have hz := h.os.1 o c (by rw [← e2]; exact e) (by show aK a o = 4; rw [← e1]; exact k)
      rw [aWd, if_neg (by rw [← e1, k]; decide)] at hz
      rw [e5, hT5 _ (by omega), hS4 _ (by omega)]
      exact h.byt o c (by rw [← e2]; exact e) (by rw [← e1]; exact k) i (by rw [← e4]; exact hi)
    · subst c; exact nB e k i hi
  · rcases lst j hj with c | c
    · have h1 : Jvm.Pilot.CObjectRowsLaw_law_r5410_90cf6f.chJ a' S (aN a') 0 (cFn (oCt t)) j := hag.chJ (Nat.le_refl _) (by omega) c (h.ch j c)
      refine chJ_same (S := S) (x := cFn (oCt t)) (hag.sa c (h.sa c)) (fun k hk => hT6 k hk j c) (fun e k i hi => ?_) (fun k hk => ?_) (fun k hk i hi => ?_) (fun i hi => ?_) h1
      · have hz := (hag.ord h.oe).1 j c e k
        exact hT11 _ (by omega)
      · rw [Nat.mul_zero, Nat.zero_add]; exact hSc k hk j c
      · rw [Nat.mul_zero, Nat.zero_add]; exact hSe k hk _ (by omega)
      · rw [Nat.mul_zero, Nat.zero_add]; exact hJ _ (by omega)
    · subst c; exact nC
/-- what add does to a row -/
theorem addG {r u : RV} {v : Int32} {n : Nat} (h : rAddP r u v) (hg : gdR r 200) (hz : rZ r = n) (hn : n < 100) : gdR u 200 ∧ rZ u = n + 1 ∧ (∀ j, j < n → rF u j = rF r j) ∧ rF u n = v := by
  obtain ⟨h1, h2, h3⟩ := h
  have hok := ok_radd (u := u) (v := v) ⟨hg.1, by have := hg.2; omega, by omega⟩ ⟨h1, h2, h3⟩
  refine ⟨⟨hok, ?_⟩, by omega, fun j hj => by rw [h2, hz, pk_un (by omega)], by rw [h2, hz, pk_us]⟩
  rw [h1]
  have := hg.2
  unfold rl
  split
  · split
    · omega
    · omega
  · omega
theorem zerG {r u : RV} {w n : Nat} (h : rZerP r u w) (hg : gdR r 12800) (hz : rZ r ≤ 64 * n) (hw : w ≤ 64) (hn : n < 100) : gdR u 12800 ∧ rZ u = rZ r + w ∧ (∀ i, i < rZ r → rF u i = rF r i) ∧ ∀ i, i < w → rF u (rZ r + i) = 0 := by
  obtain ⟨h1, h2, h3⟩ := h
  have hok : rOK u := by
    obtain ⟨g1, g2, g3⟩ := hg.1
    have g4 := hg.2
    refine ⟨?_, fun i hi => ?_, ?_⟩
    · rw [h1]; have := rl_le (n := rN r) (k := rZ r + w) (by omega) (by omega); omega
    · rw [h2, rzero]
      split
      · rfl
      · rw [h1] at hi
        have := (rl_ge (n := rN r) (k := rZ r + w)).1
        exact g2 i (by omega)
    · rw [h3, h1]; exact (rl_ge (n := rN r) (k := rZ r + w)).2
  refine ⟨⟨hok, ?_⟩, h3, fun i hi => by rw [h2, rzero, if_neg (by omega)], fun i hi => by rw [h2, rzero, if_pos (by omega)]⟩
  rw [h1]
  have := hg.2
  unfold rl
  split
  · split
    · omega
    · omega
  · omega
end REL13
