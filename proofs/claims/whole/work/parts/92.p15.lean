/-! make: its errors, and each kind -/
section REL16
variable {a : AS} {t : OS} {K : Nat → Option (CA × CS)} {S : MS}
theorem RelA.fits (h : RelA a t K S) (k z : Int32) : pFits t k z = qSize S k z := by
  have hn := h.le
  rw [pFits, qSize, h.bc.1, h.bc.2.1]
  by_cases c2 : k = 2
  · rw [if_pos c2, if_pos c2]; rfl
  rw [if_neg c2, if_neg c2]
  by_cases c3 : k = 3
  · rw [if_pos c3, if_pos c3]; rfl
  rw [if_neg c3, if_neg c3]
  by_cases c4 : k = 4
  · rw [if_pos c4, if_pos c4]; rfl
  rw [if_neg c4, if_neg c4]
  by_cases c5 : k = 5
  · rw [if_pos c5, if_pos (Or.inl c5)]; rfl
  rw [if_neg c5]
  by_cases c7 : k = 7
  · rw [if_pos (Or.inr c7), if_neg (show ¬ k = 6 by rw [c7]; decide), if_pos c7]; rfl
  have n57 : ¬ (k = 5 ∨ k = 7) := fun q => q.elim c5 c7
  rw [if_neg n57]
  by_cases c6 : k = 6
  · rw [if_pos c6, if_pos c6]
    by_cases z0 : z < 0
    · simp [pWithin, qWithin, z0]
    obtain ⟨m, hm, rfl⟩ := nI_of z0
    rw [show (32 : Int32) = nI 32 from rfl]
    simp only [pWithin, qWithin, z0, decide_false, Bool.not_false, Bool.true_and, nI_ltI (show aN a < 2 ^ 31 by omega) (show 32 < 2 ^ 31 by omega), nI_ltI (show 32 < 2 ^ 31 by omega) hm, nI_ltI (show aN a < 2 ^ 31 by omega) hm, nI_pos (n := m) hm]
    by_cases c : aN a < 32
    · rw [if_pos c]
      simp only [nI_ltI (show aN a < 2 ^ 31 by omega) hm]
      by_cases c1 : aN a < m
      · simp [c1]
      · have : ¬ 32 < m := by omega
        simp [c1, this]
    · rw [if_neg c]
      simp only [nI_ltI (show 32 < 2 ^ 31 by omega) hm]
      by_cases c1 : 32 < m
      · simp [c1]
      · have : ¬ aN a < m := by omega
        simp [c1, this]
  · rw [if_neg c6, if_neg c6, if_neg c7]
theorem RelA.mkErr (h : RelA a t K S) (k z : Int32) (c sv : Nat) : (mkE t k z ≠ 0 → (fMake S k z c sv).1 = mkE t k z ∧ (fMake S k z c sv).2 = mSetThr S 0) ∧ (mkE t k z = 0 → aN a < 100 ∧ pFits t k z = true ∧ (∃ kk, kk ≤ 11 ∧ k = nI kk) ∧ (k = 11 → aV a < 3) ∧ (fMake S k z c sv) = (nI (aN a), if k = 11 then fMakeS (fMkSave S sv) k z (nI (aN a)) (mUsed S) c else fMakeS (mSetThr S 0) k z (nI (aN a)) (mUsed S) c)) := by
  have hn := h.le
  have hf := h.fits k z
  have h3 := h.bc.2.2.2.2.2.2.1
  have e100 : mMany S = 100 ↔ aN a = 100 := by rw [h.bc.2.1]; exact nI_eq (a := aN a) (b := 100) (by omega) (by omega)
  have l100 : (100 : Int32) ≤ oCnt t ↔ 100 ≤ aN a := by rw [h.bc.1]; exact nI_leI (a := 100) (b := aN a) (by omega) (by omega)
  have e3 : mSaves S = 3 ↔ aV a = 3 := by rw [h.bc.2.2.2.2.2.1]; exact nI_eq (a := aV a) (b := 3) (by omega) (by omega)
  have l3 : oSv t < 3 ↔ aV a < 3 := by rw [h.bc.2.2.2.2.1]; exact nI_ltI (a := aV a) (b := 3) (by omega) (by omega)
  rw [mkE, fMake, ← hf]
  by_cases c1 : k < 0
  · simp [c1, qWithin]
  by_cases c2 : k ≤ 11
  rotate_left
  · have : 11 < k := Int32.not_le.mp c2
    simp [c1, c2, qWithin, this]
  have hq : ¬ qWithin k 0 11 = false := by
    have : ¬ 11 < k := Int32.not_lt.mpr c2
    simp [qWithin, c1, this]
  rw [if_neg c1, if_neg (fun q => q c2), if_neg hq]
  obtain ⟨kk, hkk, hk⟩ := nI_of2 (M := 11) (n := 11) rfl c1 c2
  cases hp : pFits t k z
  · simp
  simp only [Bool.true_eq_false, if_false]
  by_cases c3 : aN a = 100
  · rw [if_pos (l100.mpr (by omega)), if_pos (Or.inl (e100.mpr c3))]
    exact ⟨fun _ => ⟨rfl, rfl⟩, fun q => absurd q (by decide)⟩
  rw [if_neg (fun q => c3 (by have := l100.mp q; omega))]
  by_cases c4 : k = 11 ∧ aV a = 3
  · rw [if_pos ⟨c4.1, fun q => by have := l3.mp q; omega⟩, if_pos (Or.inr ⟨c4.1, e3.mpr c4.2⟩)]
    exact ⟨fun _ => ⟨rfl, rfl⟩, fun q => absurd q (by decide)⟩
  rw [if_neg (fun q => c4 ⟨q.1, by have : ¬ aV a < 3 := fun w => q.2 (l3.mpr w); omega⟩), if_neg (fun q => q.elim (fun w => c3 (e100.mp w)) (fun w => c4 ⟨w.1, e3.mp w.2⟩))]
  refine ⟨fun q => absurd rfl q, fun _ => ⟨by omega, trivial, ⟨kk, hkk, hk⟩, fun q => by have : ¬ aV a = 3 := fun w => c4 ⟨q, w⟩; omega, ?_⟩⟩
  rw [h.bc.2.1]
  by_cases c5 : k = 11
  · rw [if_pos c5, if_pos c5]
  · rw [if_neg c5, if_neg c5]
theorem RelA.mkStr (h : RelA a t K S) (hn : aN a < 100) {z : Int32} {w : Nat} (hz : z = nI w) (hw : w ≤ 64) {e : RV} {v : OS} (he : rZerP (oR t 5) e w) (hv : oAddP (oPut (mkT t 4 z) 5 e) v 4 0 (nI (rZ (oR t 5))) z) : RelA (aApp a 4 (aN a) 0 w (rZ (oR t 5)) z) v K (fMakeS (mSetThr S 0) 4 z (nI (aN a)) (mUsed S) (aN a)) := by
  obtain ⟨v1, f0, f6, r5, r11, vc, vv, vs⟩ := h.clsAdd hn (T := oPut (mkT t 4 z) 5 e) (fun i hi h5 => if_neg h5) rfl hv
  have z5 := h.rw.2.2.1
  obtain ⟨g1, g2, g3, g4⟩ := zerG he h.rw.2.1 z5 hw hn
  have r5 : oR v 5 = e := r5
  have r11 : oR v 11 = oR t 11 := r11
  have vs : oSto v = oSto t + z * pPlace 4 + 8 := vs
  refine h.mkGen (kk := 4) (k := 4) (cp := 0) (zz := z) hn (by omega) rfl v1 (by rw [r5]; exact ⟨g1, by omega, by omega, g3⟩) (by rw [r11]; exact h.same5 11 (by omega)) vc vv ?_ f0 f6 (fun _ => rfl) (fun q => absurd q (by unfold kNum; omega)) (fun q => absurd q (by omega)) (fun _ => ⟨hz, hz, hw, fun q => absurd rfl q⟩) (fun q => absurd (Or.inl rfl) q) (fun q => absurd q (by omega)) (fun _ => rfl) (fun _ i hi => by rw [r5]; exact g4 i hi) (fun _ => by rw [r5]; omega) (fun q => absurd q (by unfold kElm; omega)) (fun q => absurd q (by omega))
  rw [vs, h.bc.2.2.2.2.2.2.2.1, cost_eq, sto8]
theorem RelA.mkArr (h : RelA a t K S) (hn : aN a < 100) {z : Int32} {w : Nat} (hz : z = nI w) (hw : w ≤ 32) {e : RV} {v : OS} (he : rZerP (oR t 11) e w) (hv : oAddP (oPut (mkT t 5 z) 11 e) v 5 0 (nI (rZ (oR t 11))) z) : RelA (aApp a 5 (aN a) 0 w (rZ (oR t 11)) z) v K (fMakeS (mSetThr S 0) 5 z (nI (aN a)) (mUsed S) (aN a)) := by
  obtain ⟨v1, f0, f6, r5, r11, vc, vv, vs⟩ := h.clsAdd hn (T := oPut (mkT t 5 z) 11 e) (fun i hi h5 => if_neg (by omega)) rfl hv
  have z11 := h.rw.2.2.2.2
  obtain ⟨g1, g2, g3, g4⟩ := zerG he h.rw.2.2.2.1 z11 (by omega) hn
  have r5 : oR v 5 = oR t 5 := r5
  have r11 : oR v 11 = e := r11
  have vs : oSto v = oSto t + z * pPlace 5 + 8 := vs
  refine h.mkGen (kk := 5) (k := 5) (cp := 0) (zz := z) hn (by omega) rfl v1 (by rw [r5]; exact h.same5 5 (by omega)) (by rw [r11]; exact ⟨g1, by omega, by omega, g3⟩) vc vv ?_ f0 f6 (fun _ => rfl) (fun q => absurd q (by unfold kNum; omega)) (fun q => absurd q (by omega)) (fun _ => ⟨hz, hz, by omega, fun _ => hw⟩) (fun q => absurd (Or.inr (Or.inl rfl)) q) (fun q => absurd q (by omega)) (fun _ => rfl) (fun q => absurd q (by omega)) (fun q => absurd q (by omega)) (fun _ => by rw [r11]; simp; omega) (fun _ i hi => ?_)
  · rw [vs, h.bc.2.2.2.2.2.2.2.1, cost_eq, sto8]
  · rw [r11, g4 i hi, mkEl, if_neg (fun q => absurd q.1 (by decide))]
theorem pk_el {n w i : Nat} (hw : w ≤ n) (hi : i < w) (hn : n < 1000) : mkEl 6 (nI w) (nI n) (nI i) = nI n - nI w + nI i := by
  rw [mkEl, if_pos ⟨rfl, nI_ge hi (by omega)⟩]
theorem RelA.mkPck (h : RelA a t K S) (hn : aN a < 100) {z : Int32} {w : Nat} (hz : z = nI w) (hw : w ≤ 32) (hwn : w ≤ aN a) {e : RV} {v : OS} (he : rZerP (oR t 11) e w) (hv : oAddP (pkS (oPut (mkT t 6 z) 11 e) (rZ (oR t 11)) (oCnt t - z) w) v 6 0 (nI (rZ (oR t 11))) z) : RelA (aApp a 6 (aN a) 0 w (rZ (oR t 11)) z) v K (fMakeS (mSetThr S 0) 6 z (nI (aN a)) (mUsed S) (aN a)) := by
  obtain ⟨v1, f0, f6, r5, r11, vc, vv, vs⟩ := h.clsAdd hn (T := pkS (oPut (mkT t 6 z) 11 e) (rZ (oR t 11)) (oCnt t - z) w) (fun i hi h5 => by
    show (if i = 11 then _ else if i = 11 then _ else oR t i) = oR t i
    rw [if_neg (by omega), if_neg (by omega)]) rfl hv
  have z11 := h.rw.2.2.2.2
  obtain ⟨g1, g2, g3, g4⟩ := zerG he h.rw.2.2.2.1 z11 (by omega) hn
  have r5 : oR v 5 = oR t 5 := r5
  have r11 : oR v 11 = rPk e (rZ (oR t 11)) (oCnt t - z) w := r11
  have vs : oSto v = oSto t + z * pPlace 6 + 8 := vs
  have gg : gdR (rPk e (rZ (oR t 11)) (oCnt t - z) w) 12800 := by
    obtain ⟨⟨k1, k2, k3⟩, k4⟩ := g1
    refine ⟨⟨k1, fun i hi => ?_, k3⟩, k4⟩
    show (if rZ (oR t 11) ≤ i ∧ i < rZ (oR t 11) + w then _ else rF e i) = 0
    have : rN e ≤ i := hi
    rw [if_neg (by omega)]
    exact k2 i hi
  have gz : rZ (rPk e (rZ (oR t 11)) (oCnt t - z) w) = rZ e := rfl
  refine h.mkGen (kk := 6) (k := 6) (cp := 0) (zz := z) hn (by omega) rfl v1 (by rw [r5]; exact h.same5 5 (by omega)) (by
      rw [r11]
      refine ⟨gg, by rw [gz]; omega, by rw [gz]; omega, fun i hi => ?_⟩
      show (if rZ (oR t 11) ≤ i ∧ i < rZ (oR t 11) + w then _ else rF e i) = _
      rw [if_neg (by omega)]; exact g3 i hi) vc vv ?_ f0 f6 (fun _ => rfl) (fun q => absurd q (by unfold kNum; omega)) (fun q => absurd q (by omega)) (fun _ => ⟨hz, hz, by omega, fun _ => hw⟩) (fun q => absurd (Or.inr (Or.inr rfl)) q) (fun q => absurd q (by omega)) (fun _ => rfl) (fun q => absurd q (by omega)) (fun q => absurd q (by omega)) (fun _ => by rw [r11, gz]; simp; omega) (fun _ i hi => ?_)
  · rw [vs, h.bc.2.2.2.2.2.2.2.1, cost_eq, sto8]
  · rw [r11]
    show (if rZ (oR t 11) ≤ rZ (oR t 11) + i ∧ rZ (oR t 11) + i < rZ (oR t 11) + w then (oCnt t - z) + nI (rZ (oR t 11) + i - rZ (oR t 11)) else _) = _
    rw [if_pos (by omega), Nat.add_sub_cancel_left, hz, pk_el hwn hi (by omega), h.bc.1]
theorem RelA.mkDct (h : RelA a t K S) (hn : aN a < 100) {z : Int32} {w : Nat} (hz : z = nI w) (hw : w ≤ 32) {e : RV} {u v : OS} (he : rZerP (oR t 11) e 64) (hu : oAddP (oPut (mkT t 7 z) 11 e) u 7 0 (nI (rZ (oR t 11))) 0) (hv : v = oSet u 8 (oCnt t) z) : RelA (aApp a 7 (aN a) 0 0 (rZ (oR t 11)) z) v K (fMakeS (mSetThr S 0) 7 z (nI (aN a)) (mUsed S) (aN a)) := by
  obtain ⟨v1, f0, f6, r5, r11, vc, vv, vs⟩ := h.clsAdd hn (T := oPut (mkT t 7 z) 11 e) (fun i hi h5 => if_neg (by omega)) rfl hu
  have z11 := h.rw.2.2.2.2
  obtain ⟨g1, g2, g3, g4⟩ := zerG he h.rw.2.2.2.1 z11 (by omega) hn
  have r5 : oR u 5 = oR t 5 := r5
  have r11 : oR u 11 = e := r11
  have vs : oSto u = oSto t + z * pPlace 7 + 8 := vs
  rw [h.bc.1] at hv
  subst hv
  have g8 := v1 8 (by omega) (by omega)
  have e8 : rF (rSet (oR u 8) (nI (aN a)) z) = upd (rF (oR u 8)) (aN a) z := by
    have k1 : rN (oR u 8) < 1000000 := g8.1.1.1
    have k3 : rZ (oR u 8) ≤ rN (oR u 8) := g8.1.1.2.2
    exact rset_n (by omega) k1
  refine h.mkGen (kk := 7) (k := 7) (cp := w) (zz := 0) (cc := z) (w := 0) hn (by omega) rfl (fun i hi h5 => ?_) (by show gdR (oR u 5) 12800 ∧ rZ (oR u 5) ≤ _ ∧ rZ (oR t 5) ≤ rZ (oR u 5) ∧ ∀ i, i < rZ (oR t 5) → rF (oR u 5) i = rF (oR t 5) i; rw [r5]; exact h.same5 5 (by omega)) (by show gdR (oR u 11) 12800 ∧ rZ (oR u 11) ≤ _ ∧ rZ (oR t 11) ≤ rZ (oR u 11) ∧ ∀ i, _ → rF (oR u 11) i = _; rw [r11]; exact ⟨g1, by omega, by omega, g3⟩) vc vv ?_ f0 ⟨f6.1, f6.2.1, ?_, f6.2.2.2.1, f6.2.2.2.2⟩ (fun _ => rfl) (fun q => absurd q (by unfold kNum; omega)) (fun q => absurd q (by omega)) (fun q => absurd q (by unfold kView; omega)) (fun _ => ⟨rfl, rfl⟩) (fun _ => ⟨rfl, hz, hw⟩) (fun q => absurd rfl q) (fun q => absurd q (by omega)) (fun q => absurd q (by omega)) (fun _ => by show _ ∧ _ ≤ rZ (oR u 11); rw [r11]; simp; omega) (fun q => absurd q (by omega))
  · by_cases c : i = 8
    · subst c
      refine ⟨⟨ok_set g8.1.1, g8.1.2⟩, g8.2.1, fun j hj => ?_⟩
      show rF (rSet (oR u 8) (nI (aN a)) z) j = _
      rw [e8, pk_un (by omega)]; exact g8.2.2 j hj
    · have : oR (oSet u 8 (nI (aN a)) z) i = oR u i := if_neg c
      rw [this]; exact v1 i hi h5
  · show oSto u = _
    rw [vs, h.bc.2.2.2.2.2.2.2.1, cost_eq, sto8]
  · show rF (rSet (oR u 8) (nI (aN a)) z) (aN a) = z
    rw [e8, pk_us]
theorem RelA.mkOth (h : RelA a t K S) (hn : aN a < 100) {z : Int32} {kk : Nat} (hk : kk ≤ 10) (h4 : kk ≠ 4) (h5 : kk ≠ 5) (h6 : kk ≠ 6) (h7 : kk ≠ 7) (hname : kk = 3 → ∃ v, v ≤ 999 ∧ z = nI v) {v : OS} (hv : oAddP (mkT t (nI kk) z) v (nI kk) z 0 0) : RelA (aApp a kk (aN a) 0 0 0 z) v K (fMakeS (mSetThr S 0) (nI kk) z (nI (aN a)) (mUsed S) (aN a)) := by
  obtain ⟨v1, f0, f6, r5, r11, vc, vv, vs⟩ := h.clsAdd hn (T := mkT t (nI kk) z) (fun i hi h5 => rfl) rfl hv
  have r5 : oR v 5 = oR t 5 := r5
  have r11 : oR v 11 = oR t 11 := r11
  have vs : oSto v = oSto t + z * pPlace (nI kk) + 8 := vs
  have n1 : ¬ kView kk := by clear hname; unfold kView; omega
  have n2 : ¬ (kView kk ∨ kk = 7) := by clear hname; unfold kView; omega
  have n3 : ¬ kElm kk := by clear hname; unfold kElm; omega
  have n4 : ¬ (kk = 5 ∨ kk = 6) := by clear hname; omega
  refine h.mkGen (cp := 0) (zz := 0) hn hk rfl v1 (by rw [r5]; exact h.same5 5 (by omega)) (by rw [r11]; exact h.same5 11 (by omega)) vc vv ?_ f0 f6 (fun q => absurd q n2) (fun _ => rfl) hname (fun q => absurd q n1) (fun _ => ⟨rfl, rfl⟩) (fun q => absurd q h7) (fun _ => rfl) (fun q => absurd q h4) (fun q => absurd q h4) (fun q => absurd q n3) (fun q => absurd q n4)
  rw [vs, h.bc.2.2.2.2.2.2.2.1, cost_eq, sto8]
/-- make, of what is no SAVE -/
theorem RelA.makeO (h : RelA a t K S) {k z : Int32} (hE : mkE t k z = 0) (h11 : k ≠ 11) {v : OS} (hv : mkO (mkT t k z) k z v) : ∃ a', RelA a' v K (fMakeS (mSetThr S 0) k z (nI (aN a)) (mUsed S) (aN a)) := by
  obtain ⟨hn, hf, ⟨kk, hkk, rfl⟩, -, -⟩ := (h.mkErr k z 0 0).2 hE
  have n11 : kk ≠ 11 := fun q => h11 (by rw [q]; rfl)
  rcases hv with ⟨e, r, he, hv⟩ | ⟨e, r, he, hv⟩ | ⟨e, r, he, hv⟩ | ⟨e, r, u, he, hu, hv⟩ | ⟨e4, e5, e6, e7, hv⟩
  · rw [e] at hf hv ⊢
    obtain ⟨w, hw, hz⟩ := within_n (m := 64) (n := 64) rfl hf
    rw [hz, nI_clamp (by omega), ← hz] at he
    exact ⟨_, h.mkStr hn hz hw he hv⟩
  · rw [e] at hf hv ⊢
    obtain ⟨w, hw, hz⟩ := within_n (m := 32) (n := 32) rfl hf
    rw [hz, nI_clamp (by omega), ← hz] at he
    exact ⟨_, h.mkArr hn hz hw he hv⟩
  · rw [e] at hf hv ⊢
    obtain ⟨w, hw, hz⟩ := fits6 hf
    have hwn : w ≤ aN a := by
      rw [h.fits, hz] at hf
      have hf : (qWithin (nI w) 0 32 && !decide (mMany S < nI w)) = true := hf
      rw [h.bc.2.1, Bool.and_eq_true, Bool.not_eq_true', decide_eq_false_iff_not, nI_ltI (by omega) (by omega)] at hf
      omega
    rw [hz, nI_clamp (by omega), ← hz] at he hv
    exact ⟨_, h.mkPck hn hz hw hwn he hv⟩
  · rw [e] at hf hu ⊢
    obtain ⟨w, hw, hz⟩ := within_n (m := 32) (n := 32) rfl hf
    exact ⟨_, h.mkDct hn hz hw he hu hv⟩
  · refine ⟨_, h.mkOth hn (by omega) (fun q => e4 (by rw [q]; rfl)) (fun q => e5 (by rw [q]; rfl)) (fun q => e6 (by rw [q]; rfl)) (fun q => e7 (by rw [q]; rfl)) (fun q => ?_) hv⟩
    subst q
    exact within_n (m := 999) (n := 999) rfl hf
end REL16
