/-! make of a SAVE -/
section REL18
variable {a : AS} {t : OS} {K : Nat → Option (CA × CS)} {S S' : MS} {n q q' : Nat} {x : Nat → Nat → Int32}
theorem chR_q (h5 : ∀ k, k = 5 ∨ k = 6 ∨ k = 8 ∨ k = 9 ∨ k = 10 → ∀ j, j < n → mI S' k (100 * q' + j) = mI S k (100 * q + j)) (h7 : ∀ k, k = 7 ∨ k = 12 → ∀ i, i < 32 * n → mI S' k (3200 * q' + i) = mI S k (3200 * q + i)) (hJ : ∀ i, i < 32 * n → mJ S' (3200 * q' + i) = mJ S (3200 * q + i)) (hA : ∀ j, j < n → stA a j) (h : chR a S n q x) : chR a S' n q' x := by
  intro j hj
  obtain ⟨c0, c1, c2, c3, c4, c5⟩ := h j hj
  refine ⟨by rw [h5 5 (by omega) j hj]; exact c0, fun k => by rw [h5 6 (by omega) j hj]; exact c1 k, c2, c3, fun o k i hi => ?_, fun o k => ?_⟩
  · have hw : aW a j ≤ 32 := by
      have := (hA j hj).2.2.2.2.2.1 (Or.inr k)
      rw [o] at this
      exact this.2.2.2 (by omega)
    rw [h7 7 (by omega) (32 * j + i) (by omega)]
    exact c4 o k i hi
  · obtain ⟨e, cp, d1, d2, d3, d4, d5, d6, d7, d8, d9⟩ := c5 o k
    refine ⟨e, cp, d1, d2, by rw [h5 6 (by omega) j hj]; exact d3, d4, by rw [h5 8 (by omega) j hj]; exact d5, d6, by rw [h5 10 (by omega) j hj]; exact d7, by rw [h5 9 (by omega) j hj]; exact d8, fun p hp => ?_⟩
    rw [h7 12 (by omega) (32 * j + p) (by omega), hJ (32 * j + p) (by omega)]
    exact d9 p hp
/-- what become does to a row -/
theorem becG {r r2 u : RV} {m z : Nat} (h : rBecP r r2 u) (h1 : gdR r m) (h2 : rOK r2) (hz : rZ r2 ≤ z) (hm : m = 200 ∧ z = 100 ∨ m = 12800 ∧ z = 6400) : gdR u m ∧ rZ u = rZ r2 ∧ ∀ i, i < rZ r2 → rF u i = rF r2 i := by
  obtain ⟨e1, e2, e3⟩ := h
  obtain ⟨⟨g1, g2, g3⟩, g4⟩ := h1
  have hl := rl_ge (n := rN r) (k := rZ r2)
  have hb : rl (rN r) (rZ r2) ≤ m := by
    unfold rl
    split
    · split
      · omega
      · omega
    · omega
  refine ⟨⟨⟨by omega, fun i hi => ?_, by omega⟩, by omega⟩, e3, fun i hi => by rw [e2, rBec, if_pos hi]⟩
  rw [e2, rBec, if_neg (by omega)]
  exact g2 i (by omega)
theorem new_gd : gdC cNw := ⟨fun k hk => ⟨⟨by show 8 < _; omega, fun _ _ => rfl, by show 0 ≤ 8; omega⟩, by show 8 ≤ _; omega⟩, ⟨⟨by show 8 < _; omega, fun _ _ => rfl, by show 0 ≤ 8; omega⟩, by show 8 ≤ _; omega⟩⟩
theorem becC_G {k b c : CS} (h : cBecP k c b) (hk : gdC k) (hc : gdC c) {n : Nat} (hn : n ≤ 100) (z : ∀ i, i < 5 → rZ (cR c i) = n) (z5 : rZ (cR c 5) ≤ 64 * n) : gdC b ∧ (∀ i, i < 5 → rZ (cR b i) = n) ∧ rZ (cR b 5) = rZ (cR c 5) ∧ (∀ i, i < 5 → ∀ j, j < n → rF (cR b i) j = rF (cR c i) j) ∧ (∀ j, j < rZ (cR c 5) → rF (cR b 5) j = rF (cR c 5) j) ∧ cSto b = cSto c := by
  obtain ⟨p0, p1, p2, p3, p4, p5, ps⟩ := h
  have g : ∀ i, i < 5 → rBecP (cR k i) (cR c i) (cR b i) → gdR (cR b i) 200 ∧ rZ (cR b i) = rZ (cR c i) ∧ ∀ j, j < rZ (cR c i) → rF (cR b i) j = rF (cR c i) j := fun i hi p => becG p (hk.1 i hi) (hc.1 i hi).1 (by rw [z i hi]; exact hn) (Or.inl ⟨rfl, rfl⟩)
  have g5 := becG p5 hk.2 hc.2.1 (z := 6400) (by omega) (Or.inr ⟨rfl, rfl⟩)
  have G : ∀ i, i < 5 → gdR (cR b i) 200 ∧ rZ (cR b i) = rZ (cR c i) ∧ ∀ j, j < rZ (cR c i) → rF (cR b i) j = rF (cR c i) j := by
    intro i hi
    rcases (show i = 0 ∨ i = 1 ∨ i = 2 ∨ i = 3 ∨ i = 4 by omega) with rfl | rfl | rfl | rfl | rfl
    · exact g 0 hi p0
    · exact g 1 hi p1
    · exact g 2 hi p2
    · exact g 3 hi p3
    · exact g 4 hi p4
  refine ⟨⟨fun i hi => (G i hi).1, g5.1⟩, fun i hi => (G i hi).2.1.trans (z i hi), g5.2.1, fun i hi j hj => (G i hi).2.2 j (by rw [z i hi]; exact hj), g5.2.2, ps⟩
theorem RelA.gdNow (h : RelA a t K S) : gdC (oCt t) := ⟨fun i hi => (h.rw.1 (6 + i) (by omega) (by omega)).1, h.rw.2.2.2.1⟩
theorem refSave (hn : n < 100) {sv : Nat} (hsv : sv < 3) (hm : mMany S = nI n) (hs : mSaves S = nI sv) : (∀ k, k = 5 ∨ k = 6 ∨ k = 8 ∨ k = 9 ∨ k = 10 → ∀ j, mI (fMkSave S sv) k j = if 100 * (sv + 1) ≤ j ∧ j < 100 * (sv + 1) + 100 then mI S k (j - 100 * (sv + 1)) else mI S k j) ∧ (∀ k, k = 7 ∨ k = 12 → ∀ j, mI (fMkSave S sv) k j = if 3200 * (sv + 1) ≤ j ∧ j < 3200 * (sv + 1) + 3200 then mI S k (j - 3200 * (sv + 1)) else mI S k j) ∧ (∀ j, mJ (fMkSave S sv) j = if 3200 * (sv + 1) ≤ j ∧ j < 3200 * (sv + 1) + 3200 then mJ S (j - 3200 * (sv + 1)) else mJ S j) ∧
    (∀ k, k = 0 ∨ k = 1 ∨ k = 2 ∨ k = 3 ∨ k = 4 → mI (fMkSave S sv) k = mI S k) ∧ mI (fMkSave S sv) 13 = upd (mI S 13) (sv + 1) (nI n) ∧ mI (fMkSave S sv) 14 = upd (mI S 14) (sv + 1) (mUsed S) ∧ mSaves (fMkSave S sv) = nI (sv + 1) := by
  have cl : (mSaves S + 1).toNatClampNeg = sv + 1 := by rw [hs, nI_1]; exact nI_clamp (by omega)
  have e13 : mI (fMkSave S sv) 13 = upd (mI S 13) (mSaves S + 1).toNatClampNeg (mMany S) := rfl
  have e14 : mI (fMkSave S sv) 14 = upd (mI S 14) (mSaves S + 1).toNatClampNeg (mUsed S) := rfl
  have c1 : ∀ k, k = 5 ∨ k = 6 ∨ k = 8 ∨ k = 9 ∨ k = 10 → mI (fMkSave S sv) k = va_cpy (mI S k) (mI S k) (100 * 0) (100 * (sv + 1)) 100 := by
    intro k hk
    rcases hk with rfl | rfl | rfl | rfl | rfl <;> rfl
  have c2 : ∀ k, k = 7 ∨ k = 12 → mI (fMkSave S sv) k = va_cpy (mI S k) (mI S k) (3200 * 0) (3200 * (sv + 1)) 3200 := by
    intro k hk
    rcases hk with rfl | rfl <;> rfl
  have c3 : mJ (fMkSave S sv) = va_cpy (mJ S) (mJ S) (3200 * 0) (3200 * (sv + 1)) 3200 := rfl
  refine ⟨fun k hk j => ?_, fun k hk j => ?_, fun j => ?_, fun k hk => ?_, by rw [e13, cl, hm], by rw [e14, cl], ?_⟩
  · rw [c1 k hk, va_cpy, Nat.mul_zero, Nat.zero_add]
  · rw [c2 k hk, va_cpy, Nat.mul_zero, Nat.zero_add]
  · rw [c3, va_cpy, Nat.mul_zero, Nat.zero_add]
  · rcases hk with rfl | rfl | rfl | rfl | rfl <;> rfl
  · show mSaves S + 1 = _
    rw [hs, nI_1]
theorem fm_saves (S0 : MS) (k z o us : Int32) (c : Nat) : mSaves (fMakeS S0 k z o us c) = mSaves S0 := rfl
theorem fm_many (S0 : MS) (k z o us : Int32) (c : Nat) : mMany (fMakeS S0 k z o us c) = o + 1 := rfl
theorem fm_used (S0 : MS) (k z o us : Int32) (c : Nat) : mUsed (fMakeS S0 k z o us c) = us + (8 + mkCost k z) := rfl
theorem fm_12 (S0 : MS) (k z o us : Int32) (c : Nat) : mI (fMakeS S0 k z o us c) 12 = mI S0 12 := rfl
theorem fm_13 (S0 : MS) (k z o us : Int32) (c : Nat) : mI (fMakeS S0 k z o us c) 13 = mI S0 13 := rfl
theorem fm_14 (S0 : MS) (k z o us : Int32) (c : Nat) : mI (fMakeS S0 k z o us c) 14 = mI S0 14 := rfl
theorem fm_J (S0 : MS) (k z o us : Int32) (c : Nat) : mJ (fMakeS S0 k z o us c) = mJ S0 := rfl
def aSav (a : AS) : AS := ((aN a + 1, aV a + 1), (fun s => if s = aV a then aN a else aSo a s), (aApp a 11 (aN a) 0 0 0 0).2.2)
theorem RelA.makeS (h : RelA a t K S) {z : Int32} (hn : aN a < 100) (hv3 : aV a < 3) {v : OS} {ca : CA} {b c : CS} (hcr : ∀ k, cR c k = oR t (6 + k)) (hcs : cSto c = oSto t + z * pPlace 11) (hb : cBecP (kS (K (aV a))) c b) (hv : oAddP (oSetSv (mkT t 11 z) (nI (aV a) + 1)) v 11 (nI (aV a)) (nI (rZ (oR t 5))) 0) : RelA (aSav a) v (va_up K (aV a) (some (ca, b))) (fMakeS (fMkSave S (aV a)) 11 z (nI (aN a)) (mUsed S) (aN a)) := by
  obtain ⟨b1, b2, b3, b4, b5, b6, b7, b8, b9, b10⟩ := h.bc
  obtain ⟨v1, f0, f6, r5, r11, vc, vv, vs⟩ := h.clsAdd hn (T := oSetSv (mkT t 11 z) (nI (aV a) + 1)) (fun i hi h5 => rfl) rfl hv
  obtain ⟨s5, s7, sJ, s0, s13, s14, sS⟩ := refSave (S := S) hn hv3 b2 b6
  obtain ⟨r1, r2, r4, r7⟩ := refMake (S0 := fMkSave S (aV a)) hn 11 z (mUsed S)
  have r5 : oR v 5 = oR t 5 := r5
  have r11 : oR v 11 = oR t 11 := r11
  have hpl : z * pPlace 11 = 0 := by rw [show pPlace 11 = 0 by decide, Int32.mul_zero]
  have vs : oSto v = oSto t + z * pPlace 11 + 8 := vs
  have hst : cSto c = oSto t := by rw [hcs, hpl, Int32.add_zero]
  have hgc : gdC c := ⟨fun i hi => by rw [hcr]; exact (h.rw.1 (6 + i) (by omega) (by omega)).1, by rw [hcr]; exact h.rw.2.2.2.1⟩
  have hkg : gdC (kS (K (aV a))) := by
    cases hk : K (aV a) with
    | none => exact new_gd
    | some q => exact h.kg (aV a) q hv3 hk
  obtain ⟨g1, g2, g3, g4, g5, g6⟩ := becC_G hb hkg hgc (n := aN a) (by omega) (fun i hi => by rw [hcr]; exact (h.rw.1 (6 + i) (by omega) (by omega)).2) (by rw [hcr]; exact h.rw.2.2.2.2)
  rw [hcr] at g3 g5
  have g3 : rZ (cR b 5) = rZ (oR t 11) := g3
  have g4 : ∀ i, i < 5 → ∀ j, j < aN a → rF (cR b i) j = rF (oR t (6 + i)) j := fun i hi j hj => by rw [g4 i hi j hj, hcr]
  have hag : agr a (aSav a) (aN a) := aApp_agr (a := a) 11 (aN a) 0 0 0 0
  obtain ⟨q1, q2, q3, q4, q5, q6⟩ := aApp_n (a := a) 11 (aN a) 0 0 0 0
  have q1 : aK (aSav a) (aN a) = 11 := q1
  have q2 : aO (aSav a) (aN a) = aN a := q2
  have q3 : aF (aSav a) (aN a) = 0 := q3
  have q4 : aW (aSav a) (aN a) = 0 := q4
  have q5 : aB (aSav a) (aN a) = 0 := q5
  have n5 := h.same5 5 (by omega)
  have n11 := h.same5 11 (by omega)
  -- the reference's cells after it, by places
  have T5 : ∀ k, k = 5 ∨ k = 6 ∨ k = 8 ∨ k = 9 ∨ k = 10 → ∀ j, j ≠ aN a → mI (fMakeS (fMkSave S (aV a)) 11 z (nI (aN a)) (mUsed S) (aN a)) k j = if 100 * (aV a + 1) ≤ j ∧ j < 100 * (aV a + 1) + 100 then mI S k (j - 100 * (aV a + 1)) else mI S k j := fun k hk j hj => by rw [r1 k (by omega) j hj, s5 k hk j]
  have T7 : ∀ k, k = 7 ∨ k = 12 → ∀ j, j < 32 * aN a ∨ 3200 ≤ j → mI (fMakeS (fMkSave S (aV a)) 11 z (nI (aN a)) (mUsed S) (aN a)) k j = if 3200 * (aV a + 1) ≤ j ∧ j < 3200 * (aV a + 1) + 3200 then mI S k (j - 3200 * (aV a + 1)) else mI S k j := by
    intro k hk j hj
    rcases hk with rfl | rfl
    · rw [r7, if_neg (by omega), s7 7 (by omega) j]
    · rw [fm_12, s7 12 (by omega) j]
  have z01 : ∀ i, i = 5 ∨ i = 9 → (∀ j, mI S i j = 0 ∨ mI S i j = 1) → ∀ j, mI (fMakeS (fMkSave S (aV a)) 11 z (nI (aN a)) (mUsed S) (aN a)) i j = 0 ∨ mI (fMakeS (fMkSave S (aV a)) 11 z (nI (aN a)) (mUsed S) (aN a)) i j = 1 := by
    intro i hi hz j
    by_cases c : j = aN a
    · subst c
      left
      rcases hi with rfl | rfl
      · exact r2.2.2.2.2.1
      · exact r2.2.2.2.2.2.2.2.1
    · rw [T5 i (by omega) j c]
      split
      · exact hz _
      · exact hz _
  have hN' : aN (aSav a) = aN a + 1 := rfl
  have hV' : aV (aSav a) = aV a + 1 := rfl
  have vv' : oSv v = nI (aV a) + 1 := vv
  have soN : ∀ s, s ≠ aV a → aSo (aSav a) s = aSo a s := fun s e => if_neg e
  have soV : aSo (aSav a) (aV a) = aN a := if_pos rfl
  refine h.app (K' := va_up K (aV a) (some (ca, b))) hn hag rfl ⟨by rw [vc, hN'], ?_, by rw [hN']; omega, by rw [hN']; omega, ?_, by rw [fm_saves, sS, hV'], by rw [hV']; omega, ?_, z01 5 (by omega) b9, z01 9 (by omega) b10⟩ ⟨fun i hi h5 => ⟨(v1 i hi h5).1, (v1 i hi h5).2.1⟩, by rw [r5]; exact n5.1, by rw [r5]; exact n5.2.1, by rw [r11]; exact n11.1, by rw [r11]; exact n11.2.1⟩ (fun i hi => (v1 i (by omega) (by omega)).2.2) (fun i hi => (v1 (6 + i) (by omega) (by omega)).2.2) (fun i _ => by rw [r5]) (fun i _ => by rw [r11]) (by rw [r5]; exact Nat.le_refl _) (by rw [r11]; exact Nat.le_refl _) (fun i hi j hj => by rw [r1 i (by omega) j (by omega), s0 i (by omega)]) (fun i hi => by rw [r4, if_neg (by omega), s0 4 (by omega)]) (fun i hi j hj => by rw [T5 i hi j (by omega), if_neg (by omega)]) (fun i hi j hj => by rw [T7 i hi j (by omega), if_neg (by omega)]) (fun j hj => ?_) ?_ ?_ (fun _ e => absurd (q1.symm.trans e) (by omega)) (fun _ e => absurd (q1.symm.trans e) (by omega)) (fun _ e => absurd e (by rw [q1]; unfold kElm; omega)) ?_ (fun s hs => ?_) (fun s s' h1 h2 => ?_) (fun j hj e => ?_) (fun s q hs hq => ?_)
  · rw [fm_many, nI_1, hN']
  · rw [vv', nI_1, hV']
  · rw [vs, hpl, Int32.add_zero, b8, fm_used, cost_eq, hpl, Int32.add_zero]
  · rw [fm_J, sJ, if_neg (by omega)]
  · unfold stA
    rw [q2, q1, q2, q3, q4, q5]
    exact ⟨by omega, Nat.le_refl _, rfl, rfl, rfl, fun e => absurd e (by unfold kView; omega), fun _ => ⟨rfl, rfl⟩, fun e => absurd e (by omega), fun _ _ => rfl⟩
  · unfold stJ
    rw [q1, q2, q3, q4, f0.1, f0.2.2.1, f0.2.2.2.2, r2.1, r2.2.1, r2.2.2.1, r2.2.2.2.1]
    exact ⟨rfl, rfl, rfl, rfl, by rw [show mkLen 11 z = 0 from by rw [mkLen, if_neg (by decide)]]; rfl, rfl, fun e => absurd e (by unfold kView; omega), fun e => absurd e (by unfold kNum; omega), fun _ => mkNum_o (k := 11) (by omega) (by unfold kNum; omega) _ _⟩
  · have x0 : cFn (oCt v) 0 (aN a) = 0 := f6.1
    have x1 : cFn (oCt v) 1 (aN a) = pFirst 11 := f6.2.1
    have x2 : cFn (oCt v) 2 (aN a) = 0 := f6.2.2.1
    have x4 : cFn (oCt v) 4 (aN a) = 0 := f6.2.2.2.2
    unfold chJ
    rw [q1, q2, x0, x1, x2, x4, Nat.mul_zero, Nat.zero_add, r2.2.2.2.2.1]
    exact ⟨rfl, fun e => absurd e (by unfold kView; omega), fun _ _ _ => by decide, fun _ => ⟨rfl, rfl⟩, fun _ e => absurd e (by omega), fun _ e => absurd e (by omega)⟩
  · by_cases e : s = aV a
    · subst e
      refine ⟨ca, b, va_up_self _ _ _, by rw [soV]; show aN a < aN a + 1; omega, by rw [soV]; exact q1, by rw [soV]; exact f0.2.1, ?_, ?_, by rw [soV]; exact g2, by rw [soV, g3]; exact h.rw.2.2.2.2, ?_, by rw [soV, g3]; exact hag.ord h.oe, rZ (oR t 5), by rw [soV]; exact h.rw.2.2.1, by rw [soV]; exact f0.2.2.2.1, by rw [soV]; exact hag.ord h.os⟩
      · rw [soV]
        rw [fm_13, s13, pk_us]
      · rw [fm_14, s14, pk_us, g6, hst, b8]
      · rw [soV]
        refine hag.ch (Nat.le_refl _) ?_
        refine chR_x (x := cFn (oCt t)) (Z := rZ (oR t 11)) (fun k hk j hj => g4 k hk j hj) (fun i hi => g5 i hi) h.oe ?_
        refine chR_q (S := S) (q := 0) (fun k hk j hj => ?_) (fun k hk j hj => ?_) (fun j hj => ?_) h.stAll h.ch
        · rw [T5 k hk _ (by omega), if_pos (by omega), Nat.mul_zero, Nat.zero_add, Nat.add_sub_cancel_left]
        · rw [T7 k hk _ (by omega), if_pos (by omega), Nat.mul_zero, Nat.zero_add, Nat.add_sub_cancel_left]
        · rw [fm_J, sJ, if_pos (by omega), Nat.mul_zero, Nat.zero_add, Nat.add_sub_cancel_left]
    · have hs' : s < aV a := by have : s < aV a + 1 := hs; omega
      refine svR_app (S := S) (t := t) (K := K) (by omega) h.stAll hag (by show aN a ≤ aN a + 1; omega) (soN s e) (va_up_ne _ _ e) (v1 1 (by omega) (by omega)).2.2 (v1 3 (by omega) (by omega)).2.2 (fun k hk j h1 h2 => by rw [T5 k hk j (by omega), if_neg (by omega)]) (fun k hk j h1 h2 => by rw [T7 k hk j (by omega), if_neg (by omega)]) (fun j h1 h2 => ?_) ?_ ?_ (h.sv s hs')
      · rw [fm_J, sJ, if_neg (by omega)]
      · rw [fm_13, s13, pk_un (by omega)]
      · rw [fm_14, s14, pk_un (by omega)]
  · have h2 : s' < aV a + 1 := h2
    rw [soN s (by omega)]
    by_cases e : s' = aV a
    · subst e
      rw [soV]
      obtain ⟨_, _, _, p, _⟩ := h.sv s h1
      exact p
    · rw [soN s' e]; exact h.inc s s' h1 (by omega)
  · rcases (show j < aN a ∨ j = aN a by have : j < aN a + 1 := hj; omega) with c | c
    · obtain ⟨s, p1, p2⟩ := h.all c (by rw [← (hag j c).1]; exact e)
      exact ⟨s, by show s < aV a + 1; omega, by rw [soN s (by omega)]; exact p2⟩
    · subst c
      exact ⟨aV a, by show aV a < aV a + 1; omega, soV⟩
  · by_cases e : s = aV a
    · subst e
      rw [va_up_self] at hq
      cases hq
      exact g1
    · rw [va_up_ne _ _ e] at hq
      exact h.kg s q hs hq
end REL18
