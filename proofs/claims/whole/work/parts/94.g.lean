section LWH
variable {a : AS} {t : OS} {K : Nat → Option (CA × CS)} {S : MS}
theorem within_le {z M : Int32} {n : Nat} (hM : M = nI n) (hn : n < 1000) (h : pWithin z M = true) : z.toNatClampNeg ≤ n := by
  have h1 : ¬ z < 0 := by intro q; simp [pWithin, q] at h
  have h2 : z ≤ M := by
    apply Classical.byContradiction
    intro q
    simp [pWithin, q] at h
  obtain ⟨j, hj, rfl⟩ := nI_of h1
  rw [nI_clamp hj]
  rw [hM] at h2
  exact (nI_leI hj (by omega)).mp h2
theorem RelA.mkC_le (h : RelA a t K S) (kb : Option (CA × CS)) (k z : Int32) : mkC t kb k z ≤ 40000 := by
  have hA := h.addC
  have hn := h.le
  have h5 := h.rw.2.2.1
  have h11 := h.rw.2.2.2.2
  rw [mkC]
  by_cases hE : mkE t k z = 0
  · obtain ⟨-, hf, -, -, -⟩ := (h.mkErr k z 0 0).2 hE
    rw [if_pos hE]
    by_cases c4 : k = 4
    · have hz : z.toNatClampNeg ≤ 64 := within_le (M := 64) rfl (by omega) (by rw [c4] at hf; exact hf)
      have := rc_le (n := rN (oR t 5)) (k := rZ (oR t 5) + z.toNatClampNeg) (m := 6464) (by omega)
      rw [if_pos c4]
      omega
    rw [if_neg c4]
    by_cases c5 : k = 5 ∨ k = 6
    · have hz : z.toNatClampNeg ≤ 32 := by
        rcases c5 with c5 | c5
        · exact within_le (M := 32) rfl (by omega) (by rw [c5] at hf; exact hf)
        · rw [c5] at hf
          have hf : pWithin z (if oCnt t < 32 then oCnt t else 32) = true := hf
          by_cases q : oCnt t < 32
          · rw [if_pos q] at hf
            have e := within_le h.bc.1 (by omega) hf
            rw [h.bc.1] at q
            have := (nI_ltI (a := aN a) (b := 32) (by omega) (by omega)).mp q
            omega
          · rw [if_neg q] at hf
            exact within_le (M := 32) rfl (by omega) hf
      have := rc_le (n := rN (oR t 11)) (k := rZ (oR t 11) + z.toNatClampNeg) (m := 6464) (by omega)
      rw [if_pos c5]
      omega
    rw [if_neg c5]
    by_cases c7 : k = 7
    · have := rc_le (n := rN (oR t 11)) (k := rZ (oR t 11) + 64) (m := 6464) (by omega)
      rw [if_pos c7]
      omega
    rw [if_neg c7]
    by_cases c11 : k = 11
    · have e : cBecC (kS kb) (oCt t) ≤ 14000 := becC_le2 (fun i hi => by
        have e1 : rZ (cR (oCt t) i) = rZ (oR t (6 + i)) := rfl
        rw [e1, (h.rw.1 (6 + i) (by omega) (by omega)).2]; exact hn) (show rZ (oR t 11) ≤ 6400 by omega)
      rw [if_pos c11]
      omega
    rw [if_neg c11]
    omega
  · rw [if_neg hE]
    omega
set_option maxRecDepth 20000 in
theorem RelA.makeP (h : RelA a t K S) {s0 : Nat} (hs3 : s0 < 3) (hsv : aV a < 3 → s0 = aV a) {k z r : Int32} {u : OS × (Nat → Option Nat) × Option (CA × CS)} (hu : mkP t (K s0) (kG K) s0 k z r u) : ∃ (K' : Nat → Option (CA × CS)) (a' : AS), u.2.1 = kG K' ∧ u.2.2 = K' s0 ∧ (∀ Y, kO Y K' s0 = kO Y K s0) ∧ r = (fMake S k z (aN a) (aV a)).1 ∧ RelA a' u.1 K' (fMake S k z (aN a) (aV a)).2 ∧ mkC t (K s0) k z + 2 * psi t K ≤ 3300 + 2 * psi u.1 K' := by
  have hM := h.mkErr k z (aN a) (aV a)
  rcases hu with ⟨e1, e2, e3⟩ | ⟨hE, e2, e3⟩
  · have hE : mkE t k z ≠ 0 := by rw [← e1]; exact e2
    obtain ⟨m1, m2⟩ := hM.1 hE
    rw [e3]
    refine ⟨K, a, rfl, rfl, fun _ => rfl, by rw [m1]; exact e1, ?_, ?_⟩
    · rw [m2]; exact h.thr 0
    · rw [mkC, if_neg hE]
      show 0 + 2 * psi t K ≤ 3300 + 2 * psi t K
      omega
  · obtain ⟨hn, hf, -, hv3, hm⟩ := hM.2 hE
    rw [hm]
    rcases e3 with ⟨c11, ca, b, g1, g2, g3, g4, g5⟩ | ⟨c11, g1, g2⟩
    · have hv4 := hv3 c11
      have es := hsv hv4
      subst es
      subst c11
      have hS := h.makeS (c := oCt (mkT t 11 z)) (ca := ca) hn hv4 (fun _ => rfl) rfl g4 g5
      have hC := h.costS (z := z) (c := oCt (mkT t 11 z)) (ca := ca) hv4 (fun _ => rfl) g4 (T := oSetSv (mkT t 11 z) (nI (aV a) + 1)) ⟨rfl, rfl⟩ g5
      refine ⟨va_up K (aV a) (some (ca, b)), aSav a, ?_, ?_, fun Y => kO_up Y K (aV a) hs3 _, ?_, ?_, hC⟩
      · rw [g2]; exact kG_up K (aV a) (ca, b)
      · rw [g1, va_up_self]
      · rw [e2]; exact h.bc.1
      · exact hS
    · obtain ⟨a', hR'⟩ := h.makeO hE c11 g2
      have hC := h.costO (K s0) c11 g2
      refine ⟨K, a', ?_, ?_, fun _ => rfl, ?_, ?_, hC⟩
      · rw [g1]
      · rw [g1]
      · rw [e2]; exact h.bc.1
      · show RelA a' u.1 K (if k = 11 then _ else _)
        rw [if_neg c11]
        exact hR'
end LWH
