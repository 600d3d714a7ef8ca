/-! part -/
section REL17
variable {a : AS} {t u : OS} {K : Nat → Option (CA × CS)} {S : MS} {j n : Nat}
theorem refPart (hn : n < 100) (hm : mMany S = nI n) (x f w : Int32) : (∀ i, i = 0 ∨ i = 1 ∨ i = 2 ∨ i = 3 ∨ i = 5 ∨ i = 6 → ∀ j, j ≠ n → mI (fPartS S x f w) i j = mI S i j) ∧ (∀ i, i = 4 ∨ i = 7 ∨ i = 8 ∨ i = 9 ∨ i = 10 ∨ i = 12 ∨ i = 13 ∨ i = 14 → mI (fPartS S x f w) i = mI S i) ∧
    (mI (fPartS S x f w) 0 n = mK S x ∧ mI (fPartS S x f w) 1 n = mNu S x ∧ mI (fPartS S x f w) 2 n = f ∧ mI (fPartS S x f w) 3 n = w ∧ mI (fPartS S x f w) 5 n = vp_nar .boolean (mEx S x) ∧ mI (fPartS S x f w) 6 n = qAcc S x) := by
  have cl : (mMany S).toNatClampNeg = n := by rw [hm]; exact nI_clamp (by omega)
  have e0 : mI (fPartS S x f w) 0 = upd (mI S 0) (mMany S).toNatClampNeg (mK S x) := rfl
  have e1 : mI (fPartS S x f w) 1 = upd (upd (mI S 1) (mMany S).toNatClampNeg 0) (mMany S).toNatClampNeg (mNu S x) := rfl
  have e2 : mI (fPartS S x f w) 2 = upd (upd (mI S 2) (mMany S).toNatClampNeg 0) (mMany S).toNatClampNeg f := rfl
  have e3 : mI (fPartS S x f w) 3 = upd (upd (mI S 3) (mMany S).toNatClampNeg 0) (mMany S).toNatClampNeg w := rfl
  have e5 : mI (fPartS S x f w) 5 = upd (upd (mI S 5) (mMany S).toNatClampNeg (vp_nar .boolean 0)) (mMany S).toNatClampNeg (vp_nar .boolean (mEx S x)) := rfl
  have e6 : mI (fPartS S x f w) 6 = upd (upd (mI S 6) (mMany S).toNatClampNeg (fBlankV (mK S x))) (mMany S).toNatClampNeg (qAcc S x) := rfl
  rw [cl] at e0 e1 e2 e3 e5 e6
  refine ⟨fun i hi j hj => ?_, fun i hi => ?_, by rw [e0, pk_us], by rw [e1, pk_us], by rw [e2, pk_us], by rw [e3, pk_us], by rw [e5, pk_us], by rw [e6, pk_us]⟩
  · rcases hi with rfl | rfl | rfl | rfl | rfl | rfl
    · rw [e0, pk_un hj]
    · rw [e1, pk_un hj, pk_un hj]
    · rw [e2, pk_un hj, pk_un hj]
    · rw [e3, pk_un hj, pk_un hj]
    · rw [e5, pk_un hj, pk_un hj]
    · rw [e6, pk_un hj, pk_un hj]
  · rcases hi with rfl | rfl | rfl | rfl | rfl | rfl | rfl | rfl <;> rfl
theorem RelA.partS (h : RelA a t K S) (hn : aN a < 100) (hj : j < aN a) (hk : kView (aK a j) ∨ aK a j = 7) {f w : Nat} (hfw : kView (aK a j) → f + w ≤ aW a j) (h7 : aK a j = 7 → f = 0 ∧ w = 0) (hu : oAddP t u (kd t (nI j)) 0 (sta t (nI j) + nI f) (nI w)) : RelA (aApp a (aK a j) (aO a j) (aF a j + f) w (aB a j) 0) (gPartF u (oCnt t) (nI j)) K (fPartS S (nI j) (nI (aF a j + f)) (nI w)) := by
  obtain ⟨v1, f0, f6, r5, r11, vc, vv, vs⟩ := h.clsAdd hn (T := t) (fun i hi h5 => rfl) rfl hu
  obtain ⟨r1, r0, r2⟩ := refPart (S := S) hn h.bc.2.1 (nI j) (nI (aF a j + f)) (nI w)
  obtain ⟨q1, q2, q3, q4, q5, q6⟩ := aApp_n (a := a) (aK a j) (aO a j) (aF a j + f) w (aB a j) 0
  have hag := aApp_agr (a := a) (aK a j) (aO a j) (aF a j + f) w (aB a j) 0
  obtain ⟨b1, b2, b3, b4, b5, b6, b7, b8, b9, b10⟩ := h.bc
  have hA := h.sa hj
  have hO := h.ol hj
  have hne : aO a j ≠ aN a := by omega
  rw [b1]
  -- the three cells that are laid over
  have g : ∀ i, i < 11 → i ≠ 5 → rN (oR u i) < 1000000 ∧ aN a < rN (oR u i) := fun i hi h5 => by
    have w := v1 i hi h5
    have w1 : rZ (oR u i) ≤ rN (oR u i) := w.1.1.2.2
    have w2 : rN (oR u i) < 1000000 := w.1.1.1
    have w3 := w.2.1
    omega
  have x2 : ow u (nI j) = nI (aO a j) := by
    rw [ow, rd_n (h.lt hj), (v1 2 (by omega) (by omega)).2.2 j hj]; exact (h.sj hj).2.2.1
  have x7 : rdA (oSet u 2 (nI (aN a)) (ow u (nI j))) (nI j) = rF (oR t 7) j := (rd_n (h.lt hj)).trans ((v1 7 (by omega) (by omega)).2.2 j hj)
  have x6 : rdX (oSet (oSet u 2 (nI (aN a)) (ow u (nI j))) 7 (nI (aN a)) (rdA (oSet u 2 (nI (aN a)) (ow u (nI j))) (nI j))) (nI j) = rF (oR t 6) j := (rd_n (h.lt hj)).trans ((v1 6 (by omega) (by omega)).2.2 j hj)
  rw [gPartF, x6, x7, x2]
  have R : ∀ i, oR (oSet (oSet (oSet u 2 (nI (aN a)) (nI (aO a j))) 7 (nI (aN a)) (rF (oR t 7) j)) 6 (nI (aN a)) (rF (oR t 6) j)) i = if i = 6 then rSet (oR u 6) (nI (aN a)) (rF (oR t 6) j) else if i = 7 then rSet (oR u 7) (nI (aN a)) (rF (oR t 7) j) else if i = 2 then rSet (oR u 2) (nI (aN a)) (nI (aO a j)) else oR u i := fun _ => rfl
  generalize hv : oSet (oSet (oSet u 2 (nI (aN a)) (nI (aO a j))) 7 (nI (aN a)) (rF (oR t 7) j)) 6 (nI (aN a)) (rF (oR t 6) j) = v at R
  have sc : ∀ i val, i < 11 → i ≠ 5 → oR v i = rSet (oR u i) (nI (aN a)) val → gdR (oR v i) 200 ∧ rZ (oR v i) = aN a + 1 ∧ (∀ m, m < aN a → rF (oR v i) m = rF (oR t i) m) ∧ rF (oR v i) (aN a) = val := by
    intro i val hi h5 e
    have w := v1 i hi h5
    have e2 : rF (rSet (oR u i) (nI (aN a)) val) = upd (rF (oR u i)) (aN a) val := rset_n (g i hi h5).2 (g i hi h5).1
    rw [e]
    exact ⟨⟨ok_set w.1.1, w.1.2⟩, w.2.1, fun m hm => by rw [e2, pk_un (by omega)]; exact w.2.2 m hm, by rw [e2, pk_us]⟩
  have s6 := sc 6 _ (by omega) (by omega) (R 6)
  have s7 := sc 7 _ (by omega) (by omega) (R 7)
  have s2 := sc 2 _ (by omega) (by omega) (R 2)
  have so : ∀ i, i ≠ 6 → i ≠ 7 → i ≠ 2 → oR v i = oR u i := fun i p1 p2 p3 => by rw [R, if_neg p1, if_neg p2, if_neg p3]
  have V : ∀ i, i < 11 → i ≠ 5 → gdR (oR v i) 200 ∧ rZ (oR v i) = aN a + 1 ∧ ∀ m, m < aN a → rF (oR v i) m = rF (oR t i) m := by
    intro i hi h5
    by_cases c6 : i = 6
    · subst c6; exact ⟨s6.1, s6.2.1, s6.2.2.1⟩
    by_cases c7 : i = 7
    · subst c7; exact ⟨s7.1, s7.2.1, s7.2.2.1⟩
    by_cases c2 : i = 2
    · subst c2; exact ⟨s2.1, s2.2.1, s2.2.2.1⟩
    rw [so i c6 c7 c2]; exact v1 i hi h5
  have vcnt : oCnt v = nI (aN a + 1) := by rw [← hv]; exact vc
  have vsv : oSv v = oSv t := by rw [← hv]; exact vv
  have vsto : oSto v = oSto t + 8 := by rw [← hv]; exact vs
  have r5' : oR v 5 = oR t 5 := (so 5 (by omega) (by omega) (by omega)).trans r5
  have r11' : oR v 11 = oR t 11 := (so 11 (by omega) (by omega) (by omega)).trans r11
  have n5 := h.same5 5 (by omega)
  have n11 := h.same5 11 (by omega)
  have hEx : vp_nar .boolean (mEx S (nI j)) = mI S 5 j := by
    rw [mEx, nI_clamp (h.lt hj)]
    rcases b9 j with q | q
    · rw [q]; exact nar_b0
    · rw [q]; exact nar_b1
  have z5 : ∀ m, mI (fPartS S (nI j) (nI (aF a j + f)) (nI w)) 5 m = 0 ∨ mI (fPartS S (nI j) (nI (aF a j + f)) (nI w)) 5 m = 1 := by
    intro m
    by_cases c : m = aN a
    · subst c; rw [r2.2.2.2.2.1, hEx]; exact b9 j
    · rw [r1 5 (by omega) m c]; exact b9 m
  have hc : Jvm.Pilot.CObjectRowsLaw_law_r5410_90cf6f.chJ a S (aN a) 0 (cFn (oCt t)) j := h.ch j hj
  have hoo : aO (aApp a (aK a j) (aO a j) (aF a j + f) w (aB a j) 0) (aO a j) = aO a j := (hag _ hO).2.1.trans hA.2.2.1
  refine h.app (K' := K) hn hag rfl ⟨vcnt, ?_, Nat.zero_le _, by show aN a + 1 ≤ 100; omega, by rw [vsv]; exact b5, b6, b7, ?_, z5, by rw [r0 9 (by omega)]; exact b10⟩ ⟨fun i hi h5 => ⟨(V i hi h5).1, (V i hi h5).2.1⟩, by rw [r5']; exact n5.1, by rw [r5']; exact n5.2.1, by rw [r11']; exact n11.1, by rw [r11']; exact n11.2.1⟩ (fun i hi => (V i (by omega) (by omega)).2.2) (fun i hi => (V (6 + i) (by omega) (by omega)).2.2) (fun i _ => by rw [r5']) (fun i _ => by rw [r11']) (by rw [r5']; exact Nat.le_refl _) (by rw [r11']; exact Nat.le_refl _) (fun i hi m hm => r1 i (by omega) m (by omega)) (fun i hi => by rw [r0 4 (by omega)]) (fun i hi m hm => ?_) (fun i hi m hm => by rw [r0 i (by omega)]) (fun _ _ => rfl) ?_ ?_ (fun e => absurd (q2.symm.trans e) hne) (fun e => absurd (q2.symm.trans e) hne) (fun e => absurd (q2.symm.trans e) hne) ?_ (fun s hs => ?_) h.inc (fun m hm e => ?_) h.kg
  · show mMany S + 1 = _
    rw [b2, nI_1]; rfl
  · rw [vsto, b8]; rfl
  · rcases hi with rfl | rfl | rfl | rfl | rfl
    · exact r1 5 (by omega) m (by omega)
    · exact r1 6 (by omega) m (by omega)
    · rw [r0 8 (by omega)]
    · rw [r0 9 (by omega)]
    · rw [r0 10 (by omega)]
  · unfold stA
    rw [q1, q2, q3, q4, q5, q6, hoo, (hag _ hO).1, (hag _ hO).2.2.2.2.1, (hag _ hO).2.2.1, (hag _ hO).2.2.2.1]
    refine ⟨hA.1, by omega, rfl, hA.2.2.2.1, hA.2.2.2.2.1, fun hv => ?_, fun hv => ?_, fun e3 => ?_, fun n1 n2 => ?_⟩
    · have p := hA.2.2.2.2.2.1 hv
      have p2 := hfw hv
      exact ⟨by omega, p.2.1, p.2.2.1, p.2.2.2⟩
    · have p := hA.2.2.2.2.2.2.1 hv
      have p7 := h7 (hk.resolve_left hv)
      omega
    · exfalso; rcases hk with (p | p | p) | p <;> omega
    · exact absurd (hk.resolve_left n1) n2
  · unfold stJ
    have e3 : rF (oR v 3) (aN a) = sta t (nI j) + nI f := by rw [so 3 (by omega) (by omega) (by omega)]; exact f0.2.2.2.1
    rw [q1, q2, q3, q4, q5, q6, so 0 (by omega) (by omega) (by omega), so 4 (by omega) (by omega) (by omega), e3, f0.1, s2.2.2.2, f0.2.2.2.2, r2.1, r2.2.1, r2.2.2.1, r2.2.2.2.1]
    refine ⟨h.k1 hj, h.k2 hj, rfl, rfl, rfl, rfl, fun _ => ⟨h.o2 hj hk, by rw [h.s1 hj hk, nI_add, Nat.add_assoc]⟩, fun e => ?_, fun e => ?_⟩
    · exfalso; rcases hk with (p | p | p) | p <;> unfold kNum at e <;> omega
    · exfalso; rcases hk with (p | p | p) | p <;> omega
  · have y0 : cFn (oCt v) 0 (aN a) = rF (oR t 6) j := s6.2.2.2
    have y1 : cFn (oCt v) 1 (aN a) = rF (oR t 7) j := s7.2.2.2
    have y2 : cFn (oCt v) 2 (aN a) = 0 := by show rF (oR v 8) (aN a) = 0; rw [so 8 (by omega) (by omega) (by omega)]; exact f6.2.2.1
    have y4 : cFn (oCt v) 4 (aN a) = 0 := by show rF (oR v 10) (aN a) = 0; rw [so 10 (by omega) (by omega) (by omega)]; exact f6.2.2.2.2
    unfold chJ
    rw [q1, q2, y0, y1, y2, y4, Nat.mul_zero, Nat.zero_add, r2.2.2.2.2.1, r2.2.2.2.2.2, hEx]
    refine ⟨?_, fun e => ?_, fun n1 n2 => absurd (hk.resolve_left n1) n2, fun _ => ⟨rfl, rfl⟩, fun e => absurd e hne, fun e => absurd e hne⟩
    · have := hc.1; rw [Nat.mul_zero, Nat.zero_add] at this; exact this
    · have hv : kView (aK a j) := by
        rcases hk with p | p
        · exact p
        · exfalso; unfold kView at e; omega
      have p7 : ¬ mK S (nI j) = 7 := fun q => by have := (h.m7 hj).mp q; unfold kView at hv; omega
      have := hc.2.1 (Or.inl hv)
      rw [Nat.mul_zero, Nat.zero_add] at this
      rw [qAcc, qHolder, if_neg p7, mAc, nI_clamp (h.lt hj)]
      exact this
  · refine svR_app (S := S) (t := t) (K := K) (by omega) h.stAll hag (by show aN a ≤ aN a + 1; omega) rfl rfl (V 1 (by omega) (by omega)).2.2 (V 3 (by omega) (by omega)).2.2 (fun i hi m h1 h2 => ?_) (fun i hi m h1 h2 => by rw [r0 i (by omega)]) (fun _ _ _ => rfl) (by rw [r0 13 (by omega)]) (by rw [r0 14 (by omega)]) (h.sv s hs)
    rcases hi with rfl | rfl | rfl | rfl | rfl
    · exact r1 5 (by omega) m (by omega)
    · exact r1 6 (by omega) m (by omega)
    · rw [r0 8 (by omega)]
    · rw [r0 9 (by omega)]
    · rw [r0 10 (by omega)]
  · rcases (show m < aN a ∨ m = aN a by have : m < aN a + 1 := hm; omega) with c | c
    · exact h.all c (by rw [← (hag m c).1]; exact e)
    · subst c; rw [q1] at e; exfalso; rcases hk with (p | p | p) | p <;> omega
theorem RelA.part (h : RelA a t K S) (x f w ans : Int32) {v : OS} (hp : (ans = gPartE t x f w ∧ ans ≠ 0 ∧ v = t) ∨ (gPartE t x f w = 0 ∧ ans = oCnt t ∧ ∃ u, oAddP t u (kd t x) 0 (sta t x + (if kd t x = 7 then 0 else f)) (if kd t x = 7 then 0 else w) ∧ v = gPartF u (oCnt t) x)) : ans = (fPart S x f w).1 ∧ ∃ a', RelA a' v K (fPart S x f w).2 := by
  have hn := h.le
  have e100 : mMany S = 100 ↔ aN a = 100 := by rw [h.bc.2.1]; exact nI_eq (a := aN a) (b := 100) (by omega) (by omega)
  have l100 : (100 : Int32) ≤ oCnt t ↔ 100 ≤ aN a := by rw [h.bc.1]; exact nI_leI (a := 100) (b := aN a) (by omega) (by omega)
  rw [gPartE] at hp
  rw [fPart]
  rcases h.known x with ⟨j, hj, rfl, h1, h2⟩ | ⟨h1, h2⟩
  rotate_left
  · rw [if_pos h1] at hp
    rw [if_pos h2]
    rcases hp with ⟨q1, q2, rfl⟩ | ⟨q, -⟩
    · exact ⟨q1, a, h.thr 0⟩
    · exact absurd q (by decide)
  rw [if_neg (show ¬ pKnown t (nI j) = false by rw [h1]; decide)] at hp
  rw [if_neg (show ¬ qObj S (nI j) = false by rw [h2]; decide)]
  rw [h.pv hj] at hp
  rw [h.qv hj]
  simp only [h.d7 hj] at hp
  simp only [h.m7 hj]
  have hw := h.w64 hj
  by_cases hv : aK a j = 4 ∨ aK a j = 5 ∨ aK a j = 6
  · have hv' : kView (aK a j) := hv
    have n7 : ¬ aK a j = 7 := by omega
    rw [decide_eq_true hv] at hp ⊢
    simp only [n7, Bool.true_eq_false, false_and, if_false, true_and] at hp ⊢
    rw [h.acc hj (Or.inl hv)] at hp
    have hP : pHasPart t (nI j) f w = false ↔ (f < 0 ∨ w < 0 ∨ mL S (nI j) < f ∨ ¬ w ≤ mL S (nI j) - f) := by
      rw [pHasPart, pWithin, pWithin, h.l1 hj, h.l2 hj]
      by_cases c1 : f < 0
      · simp [c1]
      by_cases c2 : w < 0
      · simp [c1, c2]
      by_cases c3 : nI (aW a j) < f
      · simp [c1, c2, c3]
      by_cases c4 : w ≤ nI (aW a j) - f
      · have : ¬ nI (aW a j) - f < w := Int32.not_lt.mpr c4
        simp [c1, c2, c3, c4, this]
      · have : nI (aW a j) - f < w := Int32.not_le.mp c4
        simp [c1, c2, c3, c4, this]
    simp only [hP] at hp
    by_cases c1 : f < 0 ∨ w < 0 ∨ mL S (nI j) < f ∨ ¬ w ≤ mL S (nI j) - f
    · rw [if_pos c1] at hp ⊢
      rcases hp with ⟨q1, q2, rfl⟩ | ⟨q, -⟩
      · exact ⟨q1, a, h.thr 0⟩
      · exact absurd q (by decide)
    rw [if_neg c1] at hp ⊢
    by_cases c2 : qAcc S (nI j) < 2
    · have c3 : ¬ 2 ≤ qAcc S (nI j) := Int32.not_le.mpr c2
      rw [if_pos c2] at hp
      rw [if_pos c3]
      rcases hp with ⟨q1, q2, rfl⟩ | ⟨q, -⟩
      · exact ⟨q1, a, h.thr 0⟩
      · exact absurd q (by decide)
    have c3 : ¬ ¬ 2 ≤ qAcc S (nI j) := fun q => q (Int32.not_lt.mp c2)
    rw [if_neg c2] at hp
    rw [if_neg c3]
    by_cases c4 : aN a = 100
    · rw [if_pos (l100.mpr (by omega))] at hp
      rw [if_pos (e100.mpr c4)]
      rcases hp with ⟨q1, q2, rfl⟩ | ⟨q, -⟩
      · exact ⟨q1, a, h.thr 0⟩
      · exact absurd q (by decide)
    rw [if_neg (fun q => c4 (by have := l100.mp q; omega))] at hp
    rw [if_neg (fun q => c4 (e100.mp q)), if_pos trivial]
    rcases hp with ⟨q1, q2, -⟩ | ⟨-, q1, u, hu, rfl⟩
    · exact absurd q1 q2
    refine ⟨by rw [q1, h.bc.1, h.bc.2.1], ?_⟩
    have d1 : ¬ f < 0 := fun q => c1 (Or.inl q)
    have d2 : ¬ w < 0 := fun q => c1 (Or.inr (Or.inl q))
    have d3 : ¬ mL S (nI j) < f := fun q => c1 (Or.inr (Or.inr (Or.inl q)))
    have d4 : w ≤ mL S (nI j) - f := Classical.byContradiction (fun q => c1 (Or.inr (Or.inr (Or.inr q))))
    rw [h.l2 hj] at d3 d4
    obtain ⟨f', hf', rfl⟩ := nI_of2 (M := nI (aW a j)) (n := aW a j) (nI_toInt (by omega)) d1 (Int32.not_lt.mp d3)
    rw [pk_sub hf'] at d4
    obtain ⟨w', hw', rfl⟩ := nI_of2 (M := nI (aW a j - f')) (n := aW a j - f') (nI_toInt (by omega)) d2 d4
    have := h.partS (by omega) hj (Or.inl hv') (f := f') (w := w') (fun _ => by omega) (fun q => absurd q n7) hu
    rw [h.f2 hj, nI_add]
    exact ⟨_, this⟩
  · have hv' : ¬ kView (aK a j) := hv
    rw [decide_eq_false hv] at hp ⊢
    by_cases k7 : aK a j = 7
    · simp only [k7, Bool.false_eq_true, false_and, if_false, not_true_eq_false, and_false, if_true, Int32.add_zero] at hp ⊢
      rw [h.acc hj (Or.inr (Or.inl k7))] at hp
      by_cases c2 : qAcc S (nI j) < 2
      · have c3 : ¬ 2 ≤ qAcc S (nI j) := Int32.not_le.mpr c2
        rw [if_pos c2] at hp
        rw [if_pos c3]
        rcases hp with ⟨q1, q2, rfl⟩ | ⟨q, -⟩
        · exact ⟨q1, a, h.thr 0⟩
        · exact absurd q (by decide)
      have c3 : ¬ ¬ 2 ≤ qAcc S (nI j) := fun q => q (Int32.not_lt.mp c2)
      rw [if_neg c2] at hp
      rw [if_neg c3]
      by_cases c4 : aN a = 100
      · rw [if_pos (l100.mpr (by omega))] at hp
        rw [if_pos (e100.mpr c4)]
        rcases hp with ⟨q1, q2, rfl⟩ | ⟨q, -⟩
        · exact ⟨q1, a, h.thr 0⟩
        · exact absurd q (by decide)
      rw [if_neg (fun q => c4 (by have := l100.mp q; omega))] at hp
      rw [if_neg (fun q => c4 (e100.mp q))]
      rcases hp with ⟨q1, q2, -⟩ | ⟨-, q1, u, hu, rfl⟩
      · exact absurd q1 q2
      refine ⟨by rw [q1, h.bc.1, h.bc.2.1], ?_⟩
      have hF := ((h.sa hj).2.2.2.2.2.2.1 hv').1
      have := h.partS (by omega) hj (Or.inr k7) (f := 0) (w := 0) (fun q => absurd q hv') (fun _ => ⟨rfl, rfl⟩) (by rw [show nI 0 = 0 from rfl, Int32.add_zero]; exact hu)
      rw [hF] at this
      exact ⟨_, this⟩
    · simp only [k7, Bool.false_eq_true, false_and, if_false, not_false_eq_true, and_self, if_true] at hp ⊢
      rcases hp with ⟨q1, q2, rfl⟩ | ⟨q, -⟩
      · exact ⟨q1, a, h.thr 0⟩
      · exact absurd q (by decide)
end REL17
