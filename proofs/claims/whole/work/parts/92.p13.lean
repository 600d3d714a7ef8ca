/-! make: what both sides lay at the new place -/
section REL14
variable {a : AS} {t T u : OS} {K : Nat → Option (CA × CS)} {S S0 : MS} {n : Nat}
theorem RelA.clsAdd (h : RelA a t K S) (hn : aN a < 100) (hk : ∀ i, i < 11 → i ≠ 5 → oR T i = oR t i) (hc : oCnt T = oCnt t) {k nn st z : Int32} (hu : oAddP T u k nn st z) :
    (∀ i, i < 11 → i ≠ 5 → gdR (oR u i) 200 ∧ rZ (oR u i) = aN a + 1 ∧ ∀ j, j < aN a → rF (oR u i) j = rF (oR t i) j) ∧ (rF (oR u 0) (aN a) = k ∧ rF (oR u 1) (aN a) = nn ∧ rF (oR u 2) (aN a) = nI (aN a) ∧ rF (oR u 3) (aN a) = st ∧ rF (oR u 4) (aN a) = z) ∧ (rF (oR u 6) (aN a) = 0 ∧ rF (oR u 7) (aN a) = pFirst k ∧ rF (oR u 8) (aN a) = 0 ∧ rF (oR u 9) (aN a) = 0 ∧ rF (oR u 10) (aN a) = 0) ∧ oR u 5 = oR T 5 ∧ oR u 11 = oR T 11 ∧ oCnt u = nI (aN a + 1) ∧ oSv u = oSv T ∧ oSto u = oSto T + 8 := by
  obtain ⟨p0, p1, p2, p3, p4, p5, ⟨p6, p7, p8, p9, p10, p11⟩, pc, pv, ps⟩ := hu
  have p6 : rAddP (oR T 6) (oR u 6) 0 := p6
  have p7 : rAddP (oR T 7) (oR u 7) (pFirst k) := p7
  have p8 : rAddP (oR T 8) (oR u 8) 0 := p8
  have p9 : rAddP (oR T 9) (oR u 9) 0 := p9
  have p10 : rAddP (oR T 10) (oR u 10) 0 := p10
  have p11 : oR u 11 = oR T 11 := p11
  have g : ∀ i, i < 11 → i ≠ 5 → ∀ v, rAddP (oR T i) (oR u i) v → gdR (oR u i) 200 ∧ rZ (oR u i) = aN a + 1 ∧ (∀ j, j < aN a → rF (oR u i) j = rF (oR t i) j) ∧ rF (oR u i) (aN a) = v := by
    intro i hi h5 v hv
    rw [hk i hi h5] at hv
    exact addG hv (h.rw.1 i hi h5).1 (h.rw.1 i hi h5).2 hn
  have g0 := g 0 (by omega) (by omega) _ p0
  have g1 := g 1 (by omega) (by omega) _ p1
  have g2 := g 2 (by omega) (by omega) _ p2
  have g3 := g 3 (by omega) (by omega) _ p3
  have g4 := g 4 (by omega) (by omega) _ p4
  have g6 := g 6 (by omega) (by omega) _ p6
  have g7 := g 7 (by omega) (by omega) _ p7
  have g8 := g 8 (by omega) (by omega) _ p8
  have g9 := g 9 (by omega) (by omega) _ p9
  have g10 := g 10 (by omega) (by omega) _ p10
  refine ⟨fun i hi h5 => ?_, ⟨g0.2.2.2, g1.2.2.2, by rw [g2.2.2.2, hc]; exact h.bc.1, g3.2.2.2, g4.2.2.2⟩, ⟨g6.2.2.2, g7.2.2.2, g8.2.2.2, g9.2.2.2, g10.2.2.2⟩, p5, p11, by rw [pc, hc, h.bc.1, nI_1], pv, ps⟩
  rcases (show i = 0 ∨ i = 1 ∨ i = 2 ∨ i = 3 ∨ i = 4 ∨ i = 6 ∨ i = 7 ∨ i = 8 ∨ i = 9 ∨ i = 10 by omega) with rfl | rfl | rfl | rfl | rfl | rfl | rfl | rfl | rfl | rfl
  · exact ⟨g0.1, g0.2.1, g0.2.2.1⟩
  · exact ⟨g1.1, g1.2.1, g1.2.2.1⟩
  · exact ⟨g2.1, g2.2.1, g2.2.2.1⟩
  · exact ⟨g3.1, g3.2.1, g3.2.2.1⟩
  · exact ⟨g4.1, g4.2.1, g4.2.2.1⟩
  · exact ⟨g6.1, g6.2.1, g6.2.2.1⟩
  · exact ⟨g7.1, g7.2.1, g7.2.2.1⟩
  · exact ⟨g8.1, g8.2.1, g8.2.2.1⟩
  · exact ⟨g9.1, g9.2.1, g9.2.2.1⟩
  · exact ⟨g10.1, g10.2.1, g10.2.2.1⟩
theorem refMake (hn : n < 100) (k z us : Int32) : (∀ i, i = 0 ∨ i = 1 ∨ i = 2 ∨ i = 3 ∨ i = 5 ∨ i = 6 ∨ i = 8 ∨ i = 9 ∨ i = 10 → ∀ j, j ≠ n → mI (fMakeS S0 k z (nI n) us n) i j = mI S0 i j) ∧
    (mI (fMakeS S0 k z (nI n) us n) 0 n = k ∧ mI (fMakeS S0 k z (nI n) us n) 1 n = mkNum k z (nI n) ∧ mI (fMakeS S0 k z (nI n) us n) 2 n = 0 ∧ mI (fMakeS S0 k z (nI n) us n) 3 n = mkLen k z ∧ mI (fMakeS S0 k z (nI n) us n) 5 n = 0 ∧ mI (fMakeS S0 k z (nI n) us n) 6 n = fBlankV k ∧ mI (fMakeS S0 k z (nI n) us n) 8 n = mkCap k z ∧ mI (fMakeS S0 k z (nI n) us n) 9 n = 0 ∧ mI (fMakeS S0 k z (nI n) us n) 10 n = 0) ∧
    (∀ i, mI (fMakeS S0 k z (nI n) us n) 4 i = if 64 * n ≤ i ∧ i < 64 * n + 64 then vp_nar .byte 0 else mI S0 4 i) ∧ (∀ i, mI (fMakeS S0 k z (nI n) us n) 7 i = if 32 * n ≤ i ∧ i < 32 * n + 32 then mkEl k z (nI n) (nI (i - 32 * n)) else mI S0 7 i) := by
  have cl : (nI n).toNatClampNeg = n := nI_clamp (by omega)
  have e0 : mI (fMakeS S0 k z (nI n) us n) 0 = upd (mI S0 0) (nI n).toNatClampNeg k := rfl
  have e1 : mI (fMakeS S0 k z (nI n) us n) 1 = upd (upd (mI S0 1) (nI n).toNatClampNeg 0) (nI n).toNatClampNeg (mkNum k z (nI n)) := rfl
  have e2 : mI (fMakeS S0 k z (nI n) us n) 2 = upd (mI S0 2) (nI n).toNatClampNeg 0 := rfl
  have e3 : mI (fMakeS S0 k z (nI n) us n) 3 = upd (upd (mI S0 3) (nI n).toNatClampNeg 0) (nI n).toNatClampNeg (mkLen k z) := rfl
  have e5 : mI (fMakeS S0 k z (nI n) us n) 5 = upd (mI S0 5) (nI n).toNatClampNeg (vp_nar .boolean 0) := rfl
  have e6 : mI (fMakeS S0 k z (nI n) us n) 6 = upd (mI S0 6) (nI n).toNatClampNeg (fBlankV k) := rfl
  have e8 : mI (fMakeS S0 k z (nI n) us n) 8 = upd (mI S0 8) (nI n).toNatClampNeg (mkCap k z) := rfl
  have e9 : mI (fMakeS S0 k z (nI n) us n) 9 = upd (mI S0 9) (nI n).toNatClampNeg (vp_nar .boolean 0) := rfl
  have e10 : mI (fMakeS S0 k z (nI n) us n) 10 = upd (mI S0 10) (nI n).toNatClampNeg 0 := rfl
  rw [cl] at e0 e1 e2 e3 e5 e6 e8 e9 e10
  rw [nar_b0] at e5 e9
  refine ⟨fun i hi j hj => ?_, ⟨by rw [e0, pk_us], by rw [e1, pk_us], by rw [e2, pk_us], by rw [e3, pk_us], by rw [e5, pk_us], by rw [e6, pk_us], by rw [e8, pk_us], by rw [e9, pk_us], by rw [e10, pk_us]⟩, fun i => rfl, fun i => rfl⟩
  rcases hi with rfl | rfl | rfl | rfl | rfl | rfl | rfl | rfl | rfl
  · rw [e0, pk_un hj]
  · rw [e1, pk_un hj, pk_un hj]
  · rw [e2, pk_un hj]
  · rw [e3, pk_un hj, pk_un hj]
  · rw [e5, pk_un hj]
  · rw [e6, pk_un hj]
  · rw [e8, pk_un hj]
  · rw [e9, pk_un hj]
  · rw [e10, pk_un hj]
def aApp (a : AS) (k o f w b : Nat) (u : Int32) : AS := ((aN a + 1, aV a), aSo a, (fun j => if j = aN a then k else aK a j), (fun j => if j = aN a then o else aO a j), (fun j => if j = aN a then f else aF a j), (fun j => if j = aN a then w else aW a j), (fun j => if j = aN a then b else aB a j), fun j => if j = aN a then u else aU a j)
theorem aApp_agr (k o f w b : Nat) (u : Int32) : agr a (aApp a k o f w b u) (aN a) := by
  intro j hj
  have hne : j ≠ aN a := by omega
  exact ⟨if_neg hne, if_neg hne, if_neg hne, if_neg hne, if_neg hne, if_neg hne⟩
theorem aApp_n (k o f w b : Nat) (u : Int32) : aK (aApp a k o f w b u) (aN a) = k ∧ aO (aApp a k o f w b u) (aN a) = o ∧ aF (aApp a k o f w b u) (aN a) = f ∧ aW (aApp a k o f w b u) (aN a) = w ∧ aB (aApp a k o f w b u) (aN a) = b ∧ aU (aApp a k o f w b u) (aN a) = u := ⟨if_pos rfl, if_pos rfl, if_pos rfl, if_pos rfl, if_pos rfl, if_pos rfl⟩
/-- make, but of a SAVE: all that does not hang on the kind -/
theorem RelA.mkApp (h : RelA a t K S) (hn : aN a < 100) {kk w b : Nat} {k z uu : Int32} (hkk : kk ≤ 10) (hk : k = nI kk) {v : OS}
    (v1 : ∀ i, i < 11 → i ≠ 5 → gdR (oR v i) 200 ∧ rZ (oR v i) = aN a + 1 ∧ ∀ j, j < aN a → rF (oR v i) j = rF (oR t i) j) (v5 : gdR (oR v 5) 12800 ∧ rZ (oR v 5) ≤ 64 * (aN a + 1) ∧ rZ (oR t 5) ≤ rZ (oR v 5) ∧ ∀ i, i < rZ (oR t 5) → rF (oR v 5) i = rF (oR t 5) i) (v11 : gdR (oR v 11) 12800 ∧ rZ (oR v 11) ≤ 64 * (aN a + 1) ∧ rZ (oR t 11) ≤ rZ (oR v 11) ∧ ∀ i, i < rZ (oR t 11) → rF (oR v 11) i = rF (oR t 11) i)
    (vc : oCnt v = nI (aN a + 1)) (vv : oSv v = oSv t) (vs : oSto v = mUsed S + (8 + mkCost k z))
    (nA : stA (aApp a kk (aN a) 0 w b uu) (aN a)) (nJ : stJ (aApp a kk (aN a) 0 w b uu) v (fMakeS (mSetThr S 0) k z (nI (aN a)) (mUsed S) (aN a)) (aN a)) (nB : kk = 4 → ∀ i, i < w → rF (oR v 5) (b + i) = 0) (nO : kk = 4 → rZ (oR t 5) ≤ b ∧ b + w ≤ rZ (oR v 5)) (nE : kElm kk → rZ (oR t 11) ≤ b ∧ b + (if kk = 7 then 64 else w) ≤ rZ (oR v 11)) (nC : chJ (aApp a kk (aN a) 0 w b uu) (fMakeS (mSetThr S 0) k z (nI (aN a)) (mUsed S) (aN a)) (aN a + 1) 0 (cFn (oCt v)) (aN a)) :
    RelA (aApp a kk (aN a) 0 w b uu) v K (fMakeS (mSetThr S 0) k z (nI (aN a)) (mUsed S) (aN a)) := by
  obtain ⟨r1, r2, r4, r7⟩ := refMake (S0 := mSetThr S 0) hn k z (mUsed S)
  obtain ⟨q1, q2, q3, q4, q5, q6⟩ := aApp_n (a := a) kk (aN a) 0 w b uu
  obtain ⟨b1, b2, b3, b4, b5, b6, b7, b8, b9, b10⟩ := h.bc
  have hag := aApp_agr (a := a) kk (aN a) 0 w b uu
  have z01 : ∀ i, i = 5 ∨ i = 9 → (∀ j, mI S i j = 0 ∨ mI S i j = 1) → ∀ j, mI (fMakeS (mSetThr S 0) k z (nI (aN a)) (mUsed S) (aN a)) i j = 0 ∨ mI (fMakeS (mSetThr S 0) k z (nI (aN a)) (mUsed S) (aN a)) i j = 1 := by
    intro i hi hz j
    by_cases c : j = aN a
    · subst c
      left
      rcases hi with rfl | rfl
      · exact r2.2.2.2.2.1
      · exact r2.2.2.2.2.2.2.2.1
    · rw [r1 i (by omega) j c]; exact hz j
  refine h.app (K' := K) hn hag rfl ⟨vc, ?_, Nat.zero_le _, by show aN a + 1 ≤ 100; omega, by rw [vv]; exact b5, b6, b7, vs, z01 5 (by omega) b9, z01 9 (by omega) b10⟩ ⟨fun i hi h5 => ⟨(v1 i hi h5).1, (v1 i hi h5).2.1⟩, v5.1, v5.2.1, v11.1, v11.2.1⟩ (fun i hi => (v1 i (by omega) (by omega)).2.2) (fun i hi => (v1 (6 + i) (by omega) (by omega)).2.2) v5.2.2.2 v11.2.2.2 v5.2.2.1 v11.2.2.1 (fun i hi j hj => r1 i (by omega) j (by omega)) (fun i hi => ?_) (fun i hi j hj => r1 i (by omega) j (by omega)) (fun i hi j hj => ?_) (fun _ _ => rfl) nA nJ (fun _ e i hi => ?_) (fun _ e => ?_) (fun _ e => ?_) nC (fun s hs => ?_) h.inc (fun j hj e => ?_) h.kg
  · show nI (aN a) + 1 = _
    rw [nI_1]; rfl
  · rw [r4, if_neg (by omega)]
  · rcases hi with rfl | rfl
    · rw [r7, if_neg (by omega)]
    · rfl
  · rw [q1] at e
    rw [q4] at hi
    have hw : w ≤ 64 := by
      have := nA.2.2.2.2.2.1 (by rw [q1]; exact Or.inl e)
      rw [q2, q4] at this
      exact this.2.2.1
    refine ⟨0, by omega, by rw [q5]; exact nB e i hi, ?_⟩
    rw [r4, if_pos (by omega)]
    decide
  · rw [q1] at e
    rw [q5, aWd, q1, q4, if_neg (by omega)]
    exact nO e
  · rw [q1] at e
    rw [q5, aWd, q1, q4]
    exact nE e
  · refine svR_app (by omega) h.stAll hag (by show aN a ≤ aN a + 1; omega) rfl rfl (v1 1 (by omega) (by omega)).2.2 (v1 3 (by omega) (by omega)).2.2 (fun i hi j h1 h2 => r1 i (by omega) j (by omega)) (fun i hi j h1 h2 => ?_) (fun _ _ _ => rfl) rfl rfl (h.sv s hs)
    rcases hi with rfl | rfl
    · rw [r7, if_neg (by omega)]
    · rfl
  · rcases (show j < aN a ∨ j = aN a by have : j < aN a + 1 := hj; omega) with c | c
    · exact h.all c (by rw [← (hag j c).1]; exact e)
    · subst c; rw [q1] at e; omega
end REL14
