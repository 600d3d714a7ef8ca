/-! what the calls take; the start -/
def kN : Option (CA × CS) → Nat
  | none => 8
  | some q => rN (cR q.2 5)
def psi (t : OS) (K : Nat → Option (CA × CS)) : Nat := rN (oR t 5) + rN (oR t 11) + (kN (K 0) + kN (K 1) + kN (K 2))
theorem rc_le {n k m : Nat} (h : k ≤ m) : rc n k ≤ 2 * m := by
  unfold rc rl
  split
  · split <;> omega
  · omega
theorem rc_pot (n k : Nat) : rc n k + 2 * n ≤ 2 * rl n k := by
  unfold rc rl
  split
  · split <;> omega
  · omega
theorem kN_S (kb : Option (CA × CS)) : rN (cR (kS kb) 5) = kN kb := by cases kb <;> rfl
section REL21
variable {a : AS} {t u v : OS} {K K' : Nat → Option (CA × CS)} {S : MS} {j : Nat}
theorem RelA.psi_le (h : RelA a t K S) : psi t K ≤ 64000 := by
  have e : ∀ s, s < 3 → kN (K s) ≤ 12800 := by
    intro s hs
    cases hk : K s with
    | none => show 8 ≤ _; omega
    | some q => exact (h.kg s q hs hk).2.2
  have e0 := e 0 (by omega)
  have e1 := e 1 (by omega)
  have e2 := e 2 (by omega)
  have := h.rw.2.1.2
  have := h.rw.2.2.2.1.2
  unfold psi
  omega
theorem RelA.addC (h : RelA a t K S) : oAddC t ≤ 2020 := by
  have hn := h.le
  have e : ∀ k, k < 11 → k ≠ 5 → rc (rN (oR t k)) (rZ (oR t k) + 1) ≤ 202 := fun k hk h5 => rc_le (m := 101) (by rw [(h.rw.1 k hk h5).2]; omega)
  have c6 : cAddC (oCt t) ≤ 1010 := by
    have e6 := e 6 (by omega) (by omega)
    have e7 := e 7 (by omega) (by omega)
    have e8 := e 8 (by omega) (by omega)
    have e9 := e 9 (by omega) (by omega)
    have e10 := e 10 (by omega) (by omega)
    show rc (rN (oR t 6)) (rZ (oR t 6) + 1) + rc (rN (oR t 7)) (rZ (oR t 7) + 1) + rc (rN (oR t 8)) (rZ (oR t 8) + 1) + rc (rN (oR t 9)) (rZ (oR t 9) + 1) + rc (rN (oR t 10)) (rZ (oR t 10) + 1) ≤ _
    omega
  have e0 := e 0 (by omega) (by omega)
  have e1 := e 1 (by omega) (by omega)
  have e2 := e 2 (by omega) (by omega)
  have e3 := e 3 (by omega) (by omega)
  have e4 := e 4 (by omega) (by omega)
  unfold oAddC
  omega
theorem add_5 {T u : OS} {k n s z : Int32} (h : oAddP T u k n s z) : oR u 5 = oR T 5 ∧ oR u 11 = oR T 11 := ⟨h.2.2.2.2.2.1, h.2.2.2.2.2.2.1.2.2.2.2.2⟩
theorem becC_le {k c b : CS} {n : Nat} (hn : n ≤ 100) (z : ∀ i, i < 5 → rZ (cR c i) = n) (h : cBecP k c b) : cBecC k c + 2 * rN (cR k 5) ≤ 1000 + 2 * rN (cR b 5) := by
  have e : ∀ i, i < 5 → rc (rN (cR k i)) (rZ (cR c i)) ≤ 200 := fun i hi => rc_le (m := 100) (by rw [z i hi]; exact hn)
  have e0 := e 0 (by omega)
  have e1 := e 1 (by omega)
  have e2 := e 2 (by omega)
  have e3 := e 3 (by omega)
  have e4 := e 4 (by omega)
  have e5 := rc_pot (rN (cR k 5)) (rZ (cR c 5))
  have e6 : rN (cR b 5) = rl (rN (cR k 5)) (rZ (cR c 5)) := h.2.2.2.2.2.1.1
  unfold cBecC
  omega
theorem RelA.costO (h : RelA a t K S) {k z : Int32} (kb : Option (CA × CS)) (h11 : k ≠ 11) {v : OS} (hv : mkO (mkT t k z) k z v) : mkC t kb k z + 2 * psi t K ≤ 3300 + 2 * psi v K := by
  have hA := h.addC
  have g5 : ∀ (e : RV) (w : Nat), rZerP (oR t 5) e w → rc (rN (oR t 5)) (rZ (oR t 5) + w) + 2 * rN (oR t 5) ≤ 2 * rN e := fun e w he => by rw [he.1]; exact rc_pot _ _
  have g11 : ∀ (e : RV) (w : Nat), rZerP (oR t 11) e w → rc (rN (oR t 11)) (rZ (oR t 11) + w) + 2 * rN (oR t 11) ≤ 2 * rN e := fun e w he => by rw [he.1]; exact rc_pot _ _
  have hle : ∀ c, (if mkE t k z = 0 then c + oAddC t else 0) ≤ c + 2020 := fun c => by split <;> omega
  rw [mkC]
  refine Nat.le_trans (Nat.add_le_add_right (hle _) _) ?_
  unfold psi
  rcases hv with ⟨e, r, he, hv⟩ | ⟨e, r, he, hv⟩ | ⟨e, r, he, hv⟩ | ⟨e, r, u, he, hu, hv⟩ | ⟨e4, e5, e6, e7, hv⟩
  · have a5 : oR v 5 = r := (add_5 hv).1
    have a11 : oR v 11 = oR t 11 := (add_5 hv).2
    have := g5 r _ he
    rw [if_pos e, a5, a11]
    omega
  · have a5 : oR v 5 = oR t 5 := (add_5 hv).1
    have a11 : oR v 11 = r := (add_5 hv).2
    have := g11 r _ he
    rw [if_neg (show ¬ k = 4 by rw [e]; decide), if_pos (Or.inl e), a5, a11]
    omega
  · have a5 : oR v 5 = oR t 5 := (add_5 hv).1
    have a11 : oR v 11 = rPk r (rZ (oR t 11)) (oCnt t - z) z.toNatClampNeg := (add_5 hv).2
    have := g11 r _ he
    have e1 : rN (rPk r (rZ (oR t 11)) (oCnt t - z) z.toNatClampNeg) = rN r := rfl
    rw [if_neg (show ¬ k = 4 by rw [e]; decide), if_pos (Or.inr e), a5, a11, e1]
    omega
  · subst hv
    have a5 : oR (oSet u 8 (oCnt (mkT t k z)) z) 5 = oR t 5 := (add_5 hu).1
    have a11 : oR (oSet u 8 (oCnt (mkT t k z)) z) 11 = r := (add_5 hu).2
    have := g11 r _ he
    rw [if_neg (show ¬ k = 4 by rw [e]; decide), if_neg (show ¬ (k = 5 ∨ k = 6) by rw [e]; decide), if_pos e, a5, a11]
    omega
  · have a5 : oR v 5 = oR t 5 := (add_5 hv).1
    have a11 : oR v 11 = oR t 11 := (add_5 hv).2
    rw [if_neg e4, if_neg (fun q => q.elim e5 e6), if_neg e7, if_neg h11, a5, a11]
    omega
theorem psi_up {s : Nat} (hs : s < 3) (q : CA × CS) : psi v (va_up K s (some q)) + kN (K s) = psi v K + rN (cR q.2 5) := by
  unfold psi
  rcases (show s = 0 ∨ s = 1 ∨ s = 2 by omega) with rfl | rfl | rfl
  · rw [va_up_self, va_up_ne _ _ (show (1 : Nat) ≠ 0 by omega), va_up_ne _ _ (show (2 : Nat) ≠ 0 by omega)]
    show _ + (rN (cR q.2 5) + _ + _) + _ = _
    omega
  · rw [va_up_self, va_up_ne _ _ (show (0 : Nat) ≠ 1 by omega), va_up_ne _ _ (show (2 : Nat) ≠ 1 by omega)]
    show _ + (_ + rN (cR q.2 5) + _) + _ = _
    omega
  · rw [va_up_self, va_up_ne _ _ (show (0 : Nat) ≠ 2 by omega), va_up_ne _ _ (show (1 : Nat) ≠ 2 by omega)]
    show _ + (_ + _ + rN (cR q.2 5)) + _ = _
    omega
theorem RelA.costS (h : RelA a t K S) {z : Int32} (hv3 : aV a < 3) {v : OS} {ca : CA} {b c : CS} (hcr : ∀ k, cR c k = oR t (6 + k)) (hb : cBecP (kS (K (aV a))) c b) {p1 p2 p3 p4 : Int32} {T : OS} (hT : oR T 5 = oR t 5 ∧ oR T 11 = oR t 11) (hv : oAddP T v p1 p2 p3 p4) : mkC t (K (aV a)) 11 z + 2 * psi t K ≤ 3300 + 2 * psi v (va_up K (aV a) (some (ca, b))) := by
  have hA := h.addC
  have hn := h.le
  have a5 : oR v 5 = oR t 5 := (add_5 hv).1.trans hT.1
  have a11 : oR v 11 = oR t 11 := (add_5 hv).2.trans hT.2
  have hB := becC_le hn (fun i hi => by rw [hcr]; exact (h.rw.1 (6 + i) (by omega) (by omega)).2) hb
  have hCC : cBecC (kS (K (aV a))) (oCt t) = cBecC (kS (K (aV a))) c := by
    rw [cBecC, cBecC, hcr 0, hcr 1, hcr 2, hcr 3, hcr 4, hcr 5]
  have hp := psi_up (v := v) (K := K) hv3 (ca, b)
  have hpv : psi v K = psi t K := by unfold psi; rw [a5, a11]
  have hk := kN_S (K (aV a))
  have hle : mkC t (K (aV a)) 11 z ≤ 67 + cBecC (kS (K (aV a))) (oCt t) + oAddC t := by
    rw [mkC]
    split
    · rw [if_neg (show ¬ (11 : Int32) = 4 by decide), if_neg (show ¬ ((11 : Int32) = 5 ∨ (11 : Int32) = 6) by decide), if_neg (show ¬ (11 : Int32) = 7 by decide), if_pos rfl]
      exact Nat.le_refl _
    · omega
  rw [hCC] at hle
  have hp : psi v (va_up K (aV a) (some (ca, b))) + kN (K (aV a)) = psi v K + rN (cR b 5) := hp
  omega
theorem RelA.costR (h : RelA a t K S) {b : CS} (hz : ∀ i, i < 5 → rZ (cR b i) ≤ 100) {w : CS} (hb : cBecP (oCt t) b w) (x : Int32) (i k0 : Nat) : cBecC (oCt t) b + 2 * psi t K ≤ 3300 + 2 * psi (rsF t x i k0 w) K := by
  have e : ∀ i, i < 5 → rc (rN (cR (oCt t) i)) (rZ (cR b i)) ≤ 200 := fun i hi => rc_le (m := 100) (hz i hi)
  have e0 := e 0 (by omega)
  have e1 := e 1 (by omega)
  have e2 := e 2 (by omega)
  have e3 := e 3 (by omega)
  have e4 := e 4 (by omega)
  have e5 := rc_pot (rN (cR (oCt t) 5)) (rZ (cR b 5))
  have e6 : rN (cR w 5) = rl (rN (cR (oCt t) 5)) (rZ (cR b 5)) := hb.2.2.2.2.2.1.1
  obtain ⟨-, w5, w6⟩ := rs_row t x i k0 w
  have r5 : rN (oR (rsF t x i k0 w) 5) = rN (oR t 5) := by rw [w5]; rfl
  have r11 : rN (oR (rsF t x i k0 w) 11) = rN (cR w 5) := by rw [← w6 5]
  have r0 : rN (cR (oCt t) 5) = rN (oR t 11) := rfl
  unfold cBecC psi
  omega
theorem psi_same (h5 : rN (oR u 5) = rN (oR t 5)) (h11 : rN (oR u 11) = rN (oR t 11)) : psi u K = psi t K := by unfold psi; rw [h5, h11]
/-- the start -/
def a0S : AS := ((1, 0), (fun _ => 0), (fun _ => 0), (fun _ => 0), (fun _ => 0), (fun _ => 0), (fun _ => 0), fun _ => 0)
theorem rel0 {t0 : OS} (h0 : oFresh t0) (h : oAddP t0 t 0 0 0 0) : RelA a0S t (fun _ => none) m0S ∧ psi t (fun _ => none) = 40 := by
  obtain ⟨f1, f2, f3, f4⟩ := h0
  obtain ⟨p0, p1, p2, p3, p4, p5, ⟨p6, p7, p8, p9, p10, p11⟩, pc, pv, ps⟩ := h
  have new : ∀ k, k < 12 → rN (oR t0 k) = 8 ∧ rF (oR t0 k) = (fun _ => 0) ∧ rZ (oR t0 k) = 0 := by
    intro k hk
    have e := f1 k hk
    exact ⟨by show (oR t0 k).2.1 = 8; rw [e]; rfl, by show (oR t0 k).2.2.1 = _; rw [e]; rfl, by show (oR t0 k).2.2.2 = 0; rw [e]; rfl⟩
  have add : ∀ k, k < 12 → ∀ w, rAddP (oR t0 k) (oR t k) w → rN (oR t k) = 8 ∧ rF (oR t k) 0 = w ∧ rZ (oR t k) = 1 ∧ rOK (oR t k) := by
    intro k hk w hw
    obtain ⟨n1, n2, n3⟩ := new k hk
    obtain ⟨e1, e2, e3⟩ := hw
    have e1 : rN (oR t k) = 8 := by rw [e1, n1, n3]; rfl
    have e2' : rF (oR t k) 0 = w := by rw [e2, n3, pk_us]
    refine ⟨e1, e2', by rw [e3, n3], by omega, fun i hi => ?_, by omega⟩
    rw [e2, n3, pk_un (by omega), n2]
  have q0 := add 0 (by omega) _ p0
  have q1 := add 1 (by omega) _ p1
  have q2 := add 2 (by omega) _ p2
  have q3 := add 3 (by omega) _ p3
  have q4 := add 4 (by omega) _ p4
  have q6 := add 6 (by omega) _ p6
  have q7 := add 7 (by omega) _ p7
  have q8 := add 8 (by omega) _ p8
  have q9 := add 9 (by omega) _ p9
  have q10 := add 10 (by omega) _ p10
  have p5 : oR t 5 = oR t0 5 := p5
  have p11 : oR t 11 = oR t0 11 := p11
  obtain ⟨n51, n52, n53⟩ := new 5 (by omega)
  obtain ⟨m1, m2, m3⟩ := new 11 (by omega)
  have g5 : gdR (oR t 5) 12800 := by rw [p5]; exact ⟨⟨by omega, fun i _ => by rw [n52], by omega⟩, by omega⟩
  have g11 : gdR (oR t 11) 12800 := by rw [p11]; exact ⟨⟨by omega, fun i _ => by rw [m2], by omega⟩, by omega⟩
  have z5 : rZ (oR t 5) = 0 := by rw [p5]; exact n53
  have z11 : rZ (oR t 11) = 0 := by rw [p11]; exact m3
  have kn : ∀ j, aK a0S j = 0 := fun _ => rfl
  refine ⟨⟨⟨?_, rfl, Nat.zero_le _, by show 1 ≤ 100; omega, ?_, rfl, by show 0 ≤ 3; omega, ?_, fun _ => Or.inl rfl, fun _ => Or.inl rfl⟩, ⟨fun k hk h5 => ?_, g5, by omega, g11, by omega⟩, fun j hj => ?_, fun o _ _ k => absurd k (show ¬ (0 : Nat) = 4 by decide), ⟨fun o _ _ k => absurd k (show ¬ (0 : Nat) = 4 by decide), fun o o' _ _ _ _ k => absurd k (show ¬ (0 : Nat) = 4 by decide)⟩, ⟨fun o _ _ k => absurd k (show ¬ kElm 0 by unfold kElm; omega), fun o o' _ _ _ _ k => absurd k (show ¬ kElm 0 by unfold kElm; omega)⟩, fun j hj => ?_, fun s hs => absurd hs (Nat.not_lt_zero _), fun s s' _ hs => absurd hs (Nat.not_lt_zero _), fun j _ k => absurd k (show ¬ (0 : Nat) = 11 by decide), fun s q _ hq => by cases hq⟩, ?_⟩
  · rw [pc, f2]; rfl
  · rw [pv, f3]; rfl
  · rw [ps, f4]; rfl
  · rcases (show k = 0 ∨ k = 1 ∨ k = 2 ∨ k = 3 ∨ k = 4 ∨ k = 6 ∨ k = 7 ∨ k = 8 ∨ k = 9 ∨ k = 10 by omega) with rfl | rfl | rfl | rfl | rfl | rfl | rfl | rfl | rfl | rfl
    · exact ⟨⟨q0.2.2.2, by omega⟩, q0.2.2.1⟩
    · exact ⟨⟨q1.2.2.2, by omega⟩, q1.2.2.1⟩
    · exact ⟨⟨q2.2.2.2, by omega⟩, q2.2.2.1⟩
    · exact ⟨⟨q3.2.2.2, by omega⟩, q3.2.2.1⟩
    · exact ⟨⟨q4.2.2.2, by omega⟩, q4.2.2.1⟩
    · exact ⟨⟨q6.2.2.2, by omega⟩, q6.2.2.1⟩
    · exact ⟨⟨q7.2.2.2, by omega⟩, q7.2.2.1⟩
    · exact ⟨⟨q8.2.2.2, by omega⟩, q8.2.2.1⟩
    · exact ⟨⟨q9.2.2.2, by omega⟩, q9.2.2.1⟩
    · exact ⟨⟨q10.2.2.2, by omega⟩, q10.2.2.1⟩
  · have hj : j < 1 := hj
    obtain rfl : j = 0 := by omega
    refine ⟨⟨by show 0 ≤ 11; omega, Nat.le_refl _, rfl, rfl, rfl, fun k => absurd k (by unfold kView; decide), fun _ => ⟨rfl, rfl⟩, fun k => absurd k (by decide), fun _ _ => rfl⟩, q0.2.1, rfl, ?_, q4.2.1, rfl, rfl, fun k => absurd k (by unfold kView; decide), fun k => absurd k (by unfold kNum; decide), fun _ => rfl⟩
    rw [q2.2.1, f2]; rfl
  · have hj : j < 1 := hj
    obtain rfl : j = 0 := by omega
    have y1 : rF (oR t 7) 0 = 0 := by rw [q7.2.1]; decide
    exact ⟨q6.2.1, fun k => absurd k (by unfold kView; decide), fun _ _ _ => y1, fun _ => ⟨q8.2.1, q10.2.1⟩, fun _ k => absurd k (by decide), fun _ k => absurd k (by decide)⟩
  · unfold psi
    rw [p5, p11, n51, m1]
    rfl
end REL21
