/-! the relation where something has changed: what it reads -/
section REL8
variable {a : AS} {t : OS} {K : Nat → Option (CA × CS)} {S S' : MS} {j n q : Nat} {x x' : Nat → Nat → Int32}
theorem chR_S (h5 : ∀ k, k = 5 ∨ k = 6 ∨ k = 8 ∨ k = 9 ∨ k = 10 → ∀ j, j < n → mI S' k (100 * q + j) = mI S k (100 * q + j)) (h7 : ∀ k, k = 7 ∨ k = 12 → ∀ i, i < 32 * n → mI S' k (3200 * q + i) = mI S k (3200 * q + i)) (hJ : ∀ i, i < 32 * n → mJ S' (3200 * q + i) = mJ S (3200 * q + i)) (hA : ∀ j, j < n → stA a j) (h : chR a S n q x) : chR a S' n q x := by
  intro j hj
  obtain ⟨c0, c1, c2, c3, c4, c5⟩ := h j hj
  refine ⟨by rw [h5 5 (by omega) j hj]; exact c0, fun k => by rw [h5 6 (by omega) j hj]; exact c1 k, c2, c3, fun o k i hi => ?_, fun o k => ?_⟩
  · have hw : aW a j ≤ 32 := by
      have := (hA j hj).2.2.2.2.2.1 (Or.inr k)
      rw [o] at this
      exact this.2.2.2 (by omega)
    rw [h7 7 (by omega) (32 * j + i) (by omega)]
    exact c4 o k i hi
  · obtain ⟨e, cp, d1, d2, d3, d4, d5, d6, d7, d8, d9⟩ := c5 o k
    refine ⟨e, cp, d1, d2, by rw [h5 6 (by omega) j hj]; exact d3, d4, by rw [h5 8 (by omega) j hj]; exact d5, d6, by rw [h5 10 (by omega) j hj]; exact d7, by rw [h5 9 (by omega) j hj]; exact d8, fun p hp => ?_⟩
    rw [h7 12 (by omega) (32 * j + p) (by omega), hJ (32 * j + p) (by omega)]
    exact d9 p hp
theorem chR_x {Z : Nat} (hk : ∀ k, k < 5 → ∀ j, j < n → x' k j = x k j) (he : ∀ i, i < Z → x' 5 i = x 5 i) (ho : ordd a kElm n Z) (h : chR a S n q x) : chR a S n q x' := by
  intro j hj
  obtain ⟨c0, c1, c2, c3, c4, c5⟩ := h j hj
  refine ⟨by rw [hk 0 (by omega) j hj]; exact c0, fun k => by rw [hk 1 (by omega) j hj]; exact c1 k, fun k1 k2 k3 => by rw [hk 1 (by omega) j hj]; exact c2 k1 k2 k3, fun k => by rw [hk 2 (by omega) j hj, hk 4 (by omega) j hj]; exact c3 k, fun o k i hi => ?_, fun o k => ?_⟩
  · have hz := ho.1 j hj o (by rcases k with w | w; exact Or.inl w; exact Or.inr (Or.inl w))
    rw [aWd, if_neg (by omega)] at hz
    rw [he _ (by omega)]
    exact c4 o k i hi
  · have hz := ho.1 j hj o (Or.inr (Or.inr k))
    rw [aWd, if_pos k] at hz
    obtain ⟨e, cp, d1, d2, d3, d4, d5, d6, d7, d8, d9⟩ := c5 o k
    refine ⟨e, cp, d1, d2, by rw [hk 1 (by omega) j hj]; exact d3, by rw [hk 2 (by omega) j hj]; exact d4, d5, by rw [hk 3 (by omega) j hj]; exact d6, d7, by rw [hk 4 (by omega) j hj]; exact d8, fun p hp => ?_⟩
    rw [he _ (by omega), he _ (by omega)]
    exact d9 p hp
theorem ordd_n {P : Nat → Prop} {Z m : Nat} (hm : m ≤ n) (h : ordd a P n Z) : ordd a P m Z := ⟨fun o ho => h.1 o (by omega), fun o o' h1 h2 => h.2 o o' h1 (by omega)⟩
theorem ordd_Z {P : Nat → Prop} {Z Z' : Nat} (hz : Z ≤ Z') (h : ordd a P n Z) : ordd a P n Z' := ⟨fun o h1 h2 h3 => Nat.le_trans (h.1 o h1 h2 h3) hz, h.2⟩
/-- the saves see only what a call at the present does not touch -/
theorem svR_S {s : Nat} {t' : OS} (hn : aN a ≤ 100) (hA : ∀ j, j < aN a → stA a j) (h1 : rF (oR t' 1) = rF (oR t 1)) (h3 : rF (oR t' 3) = rF (oR t 3)) (h5 : ∀ k, k = 5 ∨ k = 6 ∨ k = 8 ∨ k = 9 ∨ k = 10 → ∀ j, 100 ≤ j → mI S' k j = mI S k j) (h7 : ∀ k, k = 7 ∨ k = 12 → ∀ i, 3200 ≤ i → mI S' k i = mI S k i) (hJ : ∀ i, 3200 ≤ i → mJ S' i = mJ S i) (h13 : mI S' 13 = mI S 13) (h14 : mI S' 14 = mI S 14) (h : svR a t K S s) : svR a t' K S' s := by
  obtain ⟨ca, b, c1, c2, c3, c4, c5, c6, c7, c8, c9, c10, z, c11, c12, c13⟩ := h
  refine ⟨ca, b, c1, c2, c3, by rw [h1]; exact c4, by rw [h13]; exact c5, by rw [h14]; exact c6, c7, c8, ?_, c10, z, c11, by rw [h3]; exact c12, c13⟩
  exact chR_S (fun k hk j _ => h5 k hk _ (by omega)) (fun k hk i _ => h7 k hk _ (by omega)) (fun i _ => hJ _ (by omega)) (fun j hj => hA j (by omega)) c9
theorem RelA.thr (h : RelA a t K S) (v : Int32) : RelA a t K (mSetThr S v) := h
theorem RelA.stAll (h : RelA a t K S) : ∀ j, j < aN a → stA a j := fun _ hj => h.sa hj
end REL8
/-! put -/
theorem byte_ok : ∀ v, v < 256 → vp_nar .byte (nI v).toInt8.toInt32 &&& 255 = nI v := by decide +kernel
section REL9
variable {a : AS} {t : OS} {K : Nat → Option (CA × CS)} {S : MS} {j : Nat}
/-- two cells of two stores -/
theorem ordd_ne {P : Nat → Prop} {n Z o o' i i' : Nat} (h : ordd a P n Z) (ho : o < n) (ho' : o' < n) (e : aO a o = o) (e' : aO a o' = o') (p : P (aK a o)) (p' : P (aK a o')) (hi : i < aWd a o) (hi' : i' < aWd a o') (hne : o ≠ o') : aB a o + i ≠ aB a o' + i' := by
  rcases Nat.lt_or_ge o o' with c | c
  · have := h.2 o o' c ho' e e' p p'; omega
  · have := h.2 o' o (by omega) ho e' e p' p; omega
theorem rset_n {f : Nat → Int32} {n c : Nat} {v : Int32} (hc : c < n) (hn : n < 1000000) : rset f n (nI c) v = upd f c v := rset_in hc hn
theorem RelA.rows_set (h : RelA a t K S) {k : Nat} (hk : k < 12) {i v : Int32} : rwR a (oSet t k i v) := by
  obtain ⟨w1, w2, w3, w4, w5⟩ := h.rw
  have g : ∀ m, gdR (oR t k) m → gdR (rSet (oR t k) i v) m := fun m q => ⟨ok_set q.1, q.2⟩
  refine ⟨fun k' hk' h5 => ?_, ?_, ?_, ?_, ?_⟩
  · show gdR (if k' = k then rSet (oR t k) i v else oR t k') 200 ∧ rZ (if k' = k then rSet (oR t k) i v else oR t k') = aN a
    by_cases e : k' = k
    · subst e
      rw [if_pos rfl]
      exact ⟨g _ (w1 k' hk' h5).1, (w1 k' hk' h5).2⟩
    · rw [if_neg e]; exact w1 k' hk' h5
  · show gdR (if 5 = k then rSet (oR t k) i v else oR t 5) 12800
    by_cases e : 5 = k
    · subst e; rw [if_pos rfl]; exact g _ w2
    · rw [if_neg e]; exact w2
  · show rZ (if 5 = k then rSet (oR t k) i v else oR t 5) ≤ _
    by_cases e : 5 = k
    · subst e; rw [if_pos rfl]; exact w3
    · rw [if_neg e]; exact w3
  · show gdR (if 11 = k then rSet (oR t k) i v else oR t 11) 12800
    by_cases e : 11 = k
    · subst e; rw [if_pos rfl]; exact g _ w4
    · rw [if_neg e]; exact w4
  · show rZ (if 11 = k then rSet (oR t k) i v else oR t 11) ≤ _
    by_cases e : 11 = k
    · subst e; rw [if_pos rfl]; exact w5
    · rw [if_neg e]; exact w5
theorem RelA.putS (h : RelA a t K S) (hj : j < aN a) (h4 : aK a j = 4) {m v : Nat} (hm : m < aW a j) (hv : v < 256) : RelA a (oSet t 5 (nI (aB a j + aF a j + m)) (nI v)) K (mUp (mSetThr S 0) 4 (nI (64 * aO a j + aF a j + m)) (vp_nar .byte (nI v).toInt8.toInt32)) := by
  have hA := h.sa hj
  have hO := h.ol hj
  have hn := h.le
  obtain ⟨v1, v2, v3, v4⟩ := hA.2.2.2.2.2.1 (Or.inl h4)
  have hZ : rZ (oR t 5) ≤ 64 * aN a := h.rw.2.2.1
  have hK4 : aK a (aO a j) = 4 := hA.2.2.2.1.trans h4
  have hB := h.os.1 (aO a j) hO hA.2.2.1 hK4
  have hB2 : aB a j + aW a (aO a j) ≤ rZ (oR t 5) := by rw [hA.2.2.2.2.1, aWd, if_neg (by omega)] at hB; exact hB
  have hN := h.rw.2.1.1
  have hN2 : rZ (oR t 5) ≤ rN (oR t 5) := hN.2.2
  have hN3 : rN (oR t 5) < 1000000 := hN.1
  have eF : rF (rSet (oR t 5) (nI (aB a j + aF a j + m)) (nI v)) = upd (rF (oR t 5)) (aB a j + aF a j + m) (nI v) := rset_n (by omega) hN3
  refine ⟨h.bc, h.rows_set (by omega), fun i hi => ⟨h.sa hi, h.sj hi⟩, ?_, h.os, h.oe, h.ch, fun s hs => svR_S (S := S) (t := t) hn h.stAll rfl rfl (fun k hk j _ => ?_) (fun k hk j _ => ?_) (fun _ _ => rfl) rfl rfl (h.sv s hs), h.inc, fun i => h.all, h.kg⟩
  · intro o ho e k i hi
    obtain ⟨w, w1, w2, w3⟩ := h.byt o ho e k i hi
    show ∃ v_1, v_1 < 256 ∧ rF (rSet (oR t 5) (nI (aB a j + aF a j + m)) (nI v)) (aB a o + i) = nI v_1 ∧ (upd (mI S 4) (nI (64 * aO a j + aF a j + m)).toNatClampNeg (vp_nar .byte (nI v).toInt8.toInt32)) (64 * o + i) &&& 255 = nI v_1
    rw [eF, nI_clamp (by omega)]
    have hwo : aW a o ≤ 64 := by have := h.w64 ho; omega
    by_cases eo : o = aO a j
    · subst eo
      rw [hA.2.2.2.2.1]
      by_cases ei : i = aF a j + m
      · subst ei
        refine ⟨v, hv, by rw [← Nat.add_assoc]; exact pk_us, by rw [← Nat.add_assoc, pk_us]; exact byte_ok v hv⟩
      · refine ⟨w, w1, by rw [pk_un (by omega), ← w2, hA.2.2.2.2.1], by rw [pk_un (by omega)]; exact w3⟩
    · have hne := ordd_ne h.os ho hO e hA.2.2.1 k hK4 (i := i) (i' := aF a j + m) (by rw [aWd, if_neg (by omega)]; exact hi) (by rw [aWd, if_neg (by omega)]; omega) eo
      rw [hA.2.2.2.2.1] at hne
      refine ⟨w, w1, by rw [pk_un (by omega)]; exact w2, by rw [pk_un (by omega)]; exact w3⟩
  · show (if k = 4 then upd (mI S 4) _ _ else mI S k) j = mI S k j
    rw [if_neg (by omega)]
  · show (if k = 4 then upd (mI S 4) _ _ else mI S k) j = mI S k j
    rw [if_neg (by omega)]
end REL9
