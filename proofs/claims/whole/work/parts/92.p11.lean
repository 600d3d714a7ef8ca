/-! entry -/
section REL12
variable {a : AS} {t t' : OS} {K : Nat → Option (CA × CS)} {S S' : MS} {j o : Nat}
theorem RelA.dct (h : RelA a t K S) (ho : o < aN a) (eo : aO a o = o) (k7 : aK a o = 7) (hrw : rwR a t') (hrow : ∀ k, k ≠ 8 → k ≠ 9 → k ≠ 11 → oR t' k = oR t k) (f8 : ∀ i, i ≠ o → rF (oR t' 8) i = rF (oR t 8) i) (f9 : ∀ i, i ≠ o → rF (oR t' 9) i = rF (oR t 9) i) (f11 : ∀ i, i < aB a o ∨ aB a o + 64 ≤ i → rF (oR t' 11) i = rF (oR t 11) i) (z11 : rZ (oR t' 11) = rZ (oR t 11))
    (b1 : oCnt t' = oCnt t) (b2 : oSv t' = oSv t) (b3 : oSto t' = mUsed S') (b4 : mMany S' = mMany S) (b5 : mSaves S' = mSaves S) (hI : ∀ k i, ¬ (k = 8 ∧ i = o) → ¬ (k = 10 ∧ i = o) → ¬ (k = 12 ∧ 32 * o ≤ i ∧ i < 32 * o + 32) → mI S' k i = mI S k i) (hJ : ∀ i, ¬ (32 * o ≤ i ∧ i < 32 * o + 32) → mJ S' i = mJ S i) (hd : dcR a S' (aN a) 0 (cFn (oCt t')) o) : RelA a t' K S' := by
  have hn := h.le
  obtain ⟨c1, c2, c3, c4, c5, c6, c7, c8, c9, c10⟩ := h.bc
  have hI' : ∀ k, k ≠ 8 → k ≠ 10 → k ≠ 12 → mI S' k = mI S k := fun k q1 q2 q3 => funext fun i => hI k i (fun q => q1 q.1) (fun q => q2 q.1) (fun q => q3 q.1)
  refine ⟨⟨b1.trans c1, b4.trans c2, c3, c4, b2.trans c5, b5.trans c6, c7, b3, by rw [hI' 5 (by omega) (by omega) (by omega)]; exact c9, by rw [hI' 9 (by omega) (by omega) (by omega)]; exact c10⟩, hrw, fun i hi => ⟨h.sa hi, ?_⟩, ?_, ?_, ?_, ?_, fun s hs => svR_S (S := S) (t := t) hn h.stAll (by rw [hrow 1 (by omega) (by omega) (by omega)]) (by rw [hrow 3 (by omega) (by omega) (by omega)]) (fun k hk i hi => hI k i (by omega) (by omega) (by omega)) (fun k hk i hi => hI k i (by omega) (by omega) (by omega)) (fun i hi => hJ i (by omega)) (hI' 13 (by omega) (by omega) (by omega)) (hI' 14 (by omega) (by omega) (by omega)) (h.sv s hs), h.inc, fun i => h.all, h.kg⟩
  · have := h.sj hi
    unfold stJ at this ⊢
    rw [hrow 0 (by omega) (by omega) (by omega), hrow 1 (by omega) (by omega) (by omega), hrow 2 (by omega) (by omega) (by omega), hrow 3 (by omega) (by omega) (by omega), hrow 4 (by omega) (by omega) (by omega), hI' 0 (by omega) (by omega) (by omega), hI' 1 (by omega) (by omega) (by omega), hI' 2 (by omega) (by omega) (by omega), hI' 3 (by omega) (by omega) (by omega)]
    exact this
  · intro o' ho' e k i hi
    rw [hrow 5 (by omega) (by omega) (by omega), hI' 4 (by omega) (by omega) (by omega)]
    exact h.byt o' ho' e k i hi
  · rw [hrow 5 (by omega) (by omega) (by omega)]; exact h.os
  · rw [z11]; exact h.oe
  · intro o' ho'
    have hc : chJ a S (aN a) 0 (cFn (oCt t)) o' := h.ch o' ho'
    have r6 : cFn (oCt t') 0 = cFn (oCt t) 0 := by show rF (oR t' 6) = rF (oR t 6); rw [hrow 6 (by omega) (by omega) (by omega)]
    have r7 : cFn (oCt t') 1 = cFn (oCt t) 1 := by show rF (oR t' 7) = rF (oR t 7); rw [hrow 7 (by omega) (by omega) (by omega)]
    have r10 : cFn (oCt t') 4 = cFn (oCt t) 4 := by show rF (oR t' 10) = rF (oR t 10); rw [hrow 10 (by omega) (by omega) (by omega)]
    by_cases e : o' = o
    · subst e
      refine ⟨by rw [r6, hI' 5 (by omega) (by omega) (by omega)]; exact hc.1, fun k => by rw [r7, hI' 6 (by omega) (by omega) (by omega)]; exact hc.2.1 k, fun k1 k2 => absurd k7 k2, fun k => absurd k7 k, fun _ k => absurd k (by omega), fun _ _ => hd⟩
    · refine chJ_same (S := S) (x := cFn (oCt t)) (h.sa ho') (fun k hk => ?_) (fun e' k i hi => ?_) (fun k hk => hI k _ (by omega) (by omega) (by omega)) (fun k hk i hi => hI k _ (by omega) (by omega) (by omega)) (fun i hi => hJ _ (by omega)) hc
      · rcases (show k = 0 ∨ k = 1 ∨ k = 2 ∨ k = 3 ∨ k = 4 by omega) with rfl | rfl | rfl | rfl | rfl
        · rw [r6]
        · rw [r7]
        · exact f8 o' e
        · exact f9 o' e
        · rw [r10]
      · have hw : aWd a o = 64 := by rw [aWd, if_pos k7]
        refine f11 (aB a o' + i) ?_
        rcases Nat.lt_or_ge o' o with q | q
        · have := h.oe.2 o' o q ho e' eo k (Or.inr (Or.inr k7)); omega
        · have := h.oe.2 o o' (by omega) ho' eo e' (Or.inr (Or.inr k7)) k; omega
theorem RelA.rwS (h : rwR a t) {k : Nat} (hk : k < 12) (i v : Int32) : rwR a (oSet t k i v) := by
  obtain ⟨w1, w2, w3, w4, w5⟩ := h
  have g : ∀ m, gdR (oR t k) m → gdR (rSet (oR t k) i v) m := fun m q => ⟨ok_set q.1, q.2⟩
  refine ⟨fun k' hk' h5 => ?_, ?_, ?_, ?_, ?_⟩
  · show gdR (if k' = k then rSet (oR t k) i v else oR t k') 200 ∧ rZ (if k' = k then rSet (oR t k) i v else oR t k') = aN a
    by_cases e : k' = k
    · subst e
      rw [if_pos rfl]
      exact ⟨g _ (w1 k' hk' h5).1, (w1 k' hk' h5).2⟩
    · rw [if_neg e]; exact w1 k' hk' h5
  · show gdR (if 5 = k then rSet (oR t k) i v else oR t 5) 12800
    by_cases e : 5 = k
    · subst e; rw [if_pos rfl]; exact g _ w2
    · rw [if_neg e]; exact w2
  · show rZ (if 5 = k then rSet (oR t k) i v else oR t 5) ≤ _
    by_cases e : 5 = k
    · subst e; rw [if_pos rfl]; exact w3
    · rw [if_neg e]; exact w3
  · show gdR (if 11 = k then rSet (oR t k) i v else oR t 11) 12800
    by_cases e : 11 = k
    · subst e; rw [if_pos rfl]; exact g _ w4
    · rw [if_neg e]; exact w4
  · show rZ (if 11 = k then rSet (oR t k) i v else oR t 11) ≤ _
    by_cases e : 11 = k
    · subst e; rw [if_pos rfl]; exact w5
    · rw [if_neg e]; exact w5
/-- a value is put over another -/
theorem RelA.entSet (h : RelA a t K S) (ho : o < aN a) (eo : aO a o = o) (k7 : aK a o = 7) {r e : Nat} (hr : r < e) (he : mI S 10 o = nI e) (he32 : e ≤ 32) (v : Int32) : RelA a (oSet t 11 (nI (aB a o + 32 + r)) v) K (mUp (mSetThr S 0) 12 (nI (32 * o + r)) v) := by
  have hn := h.le
  have hEl := h.elm ho eo (Or.inr (Or.inr k7)) (i := 32 + r) (by rw [aWd, if_pos k7]; omega)
  have eF : rF (rSet (oR t 11) (nI (aB a o + 32 + r)) v) = upd (rF (oR t 11)) (aB a o + 32 + r) v := rset_n (by omega) hEl.2.1
  have eM : mI (mUp (mSetThr S 0) 12 (nI (32 * o + r)) v) 12 = upd (mI S 12) (32 * o + r) v := by
    show upd (mI S 12) (nI (32 * o + r)).toNatClampNeg v = _
    rw [nI_clamp (by omega)]
  have eN : ∀ k, k ≠ 12 → mI (mUp (mSetThr S 0) 12 (nI (32 * o + r)) v) k = mI S k := fun k q => if_neg q
  obtain ⟨e', cp, d1, d2, d3, d4, d5, d6, d7, d8, d9⟩ := (h.ch o ho).2.2.2.2.2 eo k7
  have ee : e' = e := (nI_eq (by omega) (by omega)).mp (d7.symm.trans (by rw [Nat.mul_zero, Nat.zero_add]; exact he))
  refine h.dct ho eo k7 (RelA.rwS h.rw (by omega) _ _) (fun k _ _ q => if_neg q) (fun _ _ => rfl) (fun _ _ => rfl) (fun i hi => ?_) rfl rfl rfl h.bc.2.2.2.2.2.2.2.1 rfl rfl (fun k i _ _ q => ?_) (fun _ _ => rfl) ?_
  · show rF (rSet (oR t 11) (nI (aB a o + 32 + r)) v) i = _
    rw [eF, pk_un (by omega)]
  · by_cases q12 : k = 12
    · subst q12
      rw [eM, pk_un (by omega)]
    · rw [eN k q12]
  · refine ⟨e', cp, d1, d2, d3, d4, d5, d6, d7, d8, fun p hp => ?_⟩
    have d := d9 p hp
    show rF (rSet (oR t 11) (nI (aB a o + 32 + r)) v) (aB a o + 32 + p) = mI (mUp (mSetThr S 0) 12 (nI (32 * o + r)) v) 12 _ ∧ kyR a (aN a) (rF (rSet (oR t 11) (nI (aB a o + 32 + r)) v) (aB a o + p)) (mJ S _)
    rw [eF, eM, Nat.mul_zero, Nat.zero_add, pk_un (show aB a o + p ≠ aB a o + 32 + r by omega)]
    rw [Nat.mul_zero, Nat.zero_add] at d
    refine ⟨?_, d.2⟩
    by_cases q : p = r
    · subst q; rw [pk_us, pk_us]
    · rw [pk_un (by omega), pk_un (by omega)]; exact d.1
/-- a key is added, the capacity may have grown -/
theorem RelA.entAdd (h : RelA a t K S) (ho : o < aN a) (eo : aO a o = o) (k7 : aK a o = 7) {e cp' : Nat} (he : mI S 10 o = nI e) (hlt : e < cp') (hcp : cp' ≤ 32) {ck v : Int32} {cd : Int64} (hk : kyR a (aN a) ck cd) {T : OS} {U : MS} (rT : rwR a T) (T8 : oR T 8 = rSet (oR t 8) (nI o) (nI cp') ∨ (oR T 8 = oR t 8 ∧ rF (oR t 8) o = nI cp')) (Tk : ∀ k, k ≠ 8 → oR T k = oR t k) (Tc : oCnt T = oCnt t) (Tv : oSv T = oSv t) (Ts : oSto T = mUsed U) (U8 : mI U 8 = upd (mI S 8) o (nI cp')) (Uk : ∀ k, k ≠ 8 → mI U k = mI S k) (UJ : mJ U = mJ S) (Um : mMany U = mMany S) (Us : mSaves U = mSaves S) :
    RelA a (oSet (oSet (oSet T 11 (nI (aB a o + e)) ck) 9 (nI o) (nI (e + 1))) 11 (nI (aB a o + 32 + e)) v) K (mUp (mUp (mUpJ U (nI (32 * o + e)) cd) 10 (nI o) (nI (e + 1))) 12 (nI (32 * o + e)) v) := by
  have hn := h.le
  have hE1 := h.elm ho eo (Or.inr (Or.inr k7)) (i := e) (by rw [aWd, if_pos k7]; omega)
  have hE2 := h.elm ho eo (Or.inr (Or.inr k7)) (i := 32 + e) (by rw [aWd, if_pos k7]; omega)
  obtain ⟨e', cp, d1, d2, d3, d4, d5, d6, d7, d8, d9⟩ := (h.ch o ho).2.2.2.2.2 eo k7
  rw [Nat.mul_zero, Nat.zero_add] at d3 d5 d7 d8
  have ee : e' = e := (nI_eq (by omega) (by omega)).mp (d7.symm.trans he)
  have F11 : rF (rSet (rSet (oR T 11) (nI (aB a o + e)) ck) (nI (aB a o + 32 + e)) v) = upd (upd (rF (oR t 11)) (aB a o + e) ck) (aB a o + 32 + e) v := by
    rw [Tk 11 (by omega)]
    show rset (rset (rF (oR t 11)) (rN (oR t 11)) (nI (aB a o + e)) ck) (rN (oR t 11)) (nI (aB a o + 32 + e)) v = _
    rw [rset_n (by omega) hE1.2.1, rset_n (by omega) hE2.2.1]
  have F9 : rF (rSet (oR T 9) (nI o) (nI (e + 1))) = upd (rF (oR t 9)) o (nI (e + 1)) := by
    rw [Tk 9 (by omega)]; exact h.rowS (by omega) (by omega) ho _
  have F8 : rF (oR T 8) = upd (rF (oR t 8)) o (nI cp') := by
    rcases T8 with q | ⟨q1, q2⟩
    · rw [q]; exact h.rowS (by omega) (by omega) ho _
    · rw [q1]
      funext i
      by_cases c : i = o
      · subst c; rw [pk_us]; exact q2
      · rw [pk_un c]
  have cl1 : (nI o).toNatClampNeg = o := nI_clamp (by omega)
  have cl2 : (nI (32 * o + e)).toNatClampNeg = 32 * o + e := nI_clamp (by omega)
  have M : ∀ k, mI (mUp (mUp (mUpJ U (nI (32 * o + e)) cd) 10 (nI o) (nI (e + 1))) 12 (nI (32 * o + e)) v) k = if k = 12 then upd (mI S 12) (32 * o + e) v else if k = 10 then upd (mI S 10) o (nI (e + 1)) else if k = 8 then upd (mI S 8) o (nI cp') else mI S k := by
    intro k
    show (if k = 12 then upd (if 12 = 10 then upd (mI U 10) (nI o).toNatClampNeg (nI (e + 1)) else mI U 12) (nI (32 * o + e)).toNatClampNeg v else (if k = 10 then upd (mI U 10) (nI o).toNatClampNeg (nI (e + 1)) else mI U k)) = _
    rw [cl1, cl2, if_neg (show ¬ (12 : Nat) = 10 by omega), Uk 12 (by omega), Uk 10 (by omega)]
    by_cases c1 : k = 12
    · rw [if_pos c1, if_pos c1]
    rw [if_neg c1, if_neg c1]
    by_cases c2 : k = 10
    · rw [if_pos c2, if_pos c2]
    rw [if_neg c2, if_neg c2]
    by_cases c3 : k = 8
    · subst c3; rw [if_pos rfl, U8]
    · rw [if_neg c3, Uk k c3]
  have MJ : mJ (mUp (mUp (mUpJ U (nI (32 * o + e)) cd) 10 (nI o) (nI (e + 1))) 12 (nI (32 * o + e)) v) = vp_updL (mJ S) (32 * o + e) cd := by
    show vp_updL (mJ U) (nI (32 * o + e)).toNatClampNeg cd = _
    rw [cl2, UJ]
  refine h.dct ho eo k7 (RelA.rwS (RelA.rwS (RelA.rwS rT (by omega) _ _) (by omega) _ _) (by omega) _ _) (fun k q8 q9 q11 => ?_) (fun i hi => ?_) (fun i hi => ?_) (fun i hi => ?_) ?_ Tc Tv Ts Um Us (fun k i q1 q2 q3 => ?_) (fun i hi => ?_) ?_
  · show (if k = 11 then _ else if k = 9 then _ else if k = 11 then _ else oR T k) = oR t k
    rw [if_neg q11, if_neg q9, if_neg q11, Tk k q8]
  · show rF (oR T 8) i = _
    rw [F8, pk_un hi]
  · show rF (rSet (oR T 9) (nI o) (nI (e + 1))) i = _
    rw [F9, pk_un hi]
  · show rF (rSet (rSet (oR T 11) (nI (aB a o + e)) ck) (nI (aB a o + 32 + e)) v) i = _
    rw [F11, pk_un (by omega), pk_un (by omega)]
  · show rZ (oR T 11) = _
    rw [Tk 11 (by omega)]
  · rw [M]
    by_cases c1 : k = 12
    · subst c1; rw [if_pos rfl, pk_un (by omega)]
    rw [if_neg c1]
    by_cases c2 : k = 10
    · subst c2; rw [if_pos rfl, pk_un (by omega)]
    rw [if_neg c2]
    by_cases c3 : k = 8
    · subst c3; rw [if_pos rfl, pk_un (by omega)]
    · rw [if_neg c3]
  · rw [MJ, pk_uLn (by omega)]
  · refine ⟨e + 1, cp', by omega, hcp, ?_, ?_, ?_, ?_, ?_, ?_, fun p hp => ?_⟩
    · show rF (oR T 7) o = _
      rw [Tk 7 (by omega), M, if_neg (by omega), if_neg (by omega), if_neg (by omega), Nat.mul_zero, Nat.zero_add]; exact d3
    · show rF (oR T 8) o = _
      rw [F8, pk_us]
    · rw [M, if_neg (by omega), if_neg (by omega), if_pos rfl, Nat.mul_zero, Nat.zero_add, pk_us]
    · show rF (rSet (oR T 9) (nI o) (nI (e + 1))) o = _
      rw [F9, pk_us]
    · rw [M, if_neg (by omega), if_pos rfl, Nat.mul_zero, Nat.zero_add, pk_us]
    · show rF (oR T 10) o = _
      rw [Tk 10 (by omega), M, if_neg (by omega), if_neg (by omega), if_neg (by omega), Nat.mul_zero, Nat.zero_add]; exact d8
    · show rF (rSet (rSet (oR T 11) (nI (aB a o + e)) ck) (nI (aB a o + 32 + e)) v) (aB a o + 32 + p) = _ ∧ kyR a (aN a) (rF (rSet (rSet (oR T 11) (nI (aB a o + e)) ck) (nI (aB a o + 32 + e)) v) (aB a o + p)) _
      rw [F11, M, if_pos rfl, MJ, Nat.mul_zero, Nat.zero_add, pk_un (show aB a o + p ≠ aB a o + 32 + e by omega)]
      by_cases q : p = e
      · subst q
        rw [pk_us, pk_us, pk_us, pk_uLs]
        exact ⟨rfl, hk⟩
      · have d := d9 p (by omega)
        rw [Nat.mul_zero, Nat.zero_add] at d
        rw [pk_un (by omega), pk_un (by omega), pk_un (by omega), pk_un (by omega), pk_uLn (by omega)]
        exact d
theorem wide_eq {cp : Nat} (h : cp < 32) : ∃ w, cp < w ∧ w ≤ 32 ∧ gWide (nI cp) = nI w ∧ (if 2 * nI cp + 1 ≤ 32 then 2 * nI cp + 1 else 32) = nI w := by
  have e : (2 : Int32) * nI cp + 1 = nI (2 * cp + 1) := by rw [show (2 : Int32) = nI 2 from rfl, pk_mul, nI_1]
  rw [gWide, e, show (32 : Int32) = nI 32 from rfl]
  simp only [nI_ltI (show 32 < 2 ^ 31 by omega) (show 2 * cp + 1 < 2 ^ 31 by omega), nI_leI (show 2 * cp + 1 < 2 ^ 31 by omega) (show 32 < 2 ^ 31 by omega)]
  by_cases c : 32 < 2 * cp + 1
  · exact ⟨32, h, by omega, by rw [if_pos c], by rw [if_neg (by omega)]⟩
  · exact ⟨2 * cp + 1, by omega, by omega, by rw [if_neg c], by rw [if_pos (by omega)]⟩
theorem sto_eq {s c w : Int32} : s + (w - c) * 16 = s + 16 * (w - c) := by rw [Int32.mul_comm]
theorem RelA.entry (h : RelA a t K S) (x y v : Int32) : (gEntry t x y v).1 = (fEntry S x y v).1 ∧ RelA a (gEntry t x y v).2 K (fEntry S x y v).2 := by
  rw [gEntry, fEntry]
  rcases h.known x with ⟨j, hj, rfl, h1, h2⟩ | ⟨h1, h2⟩
  rotate_left
  · rw [if_pos h1, if_pos h2]; exact ⟨rfl, h.thr 0⟩
  rw [if_neg (show ¬ pKnown t (nI j) = false by rw [h1]; decide), if_neg (show ¬ qObj S (nI j) = false by rw [h2]; decide)]
  rcases h.known y with ⟨i, hi, rfl, h3, h4⟩ | ⟨h3, h4⟩
  rotate_left
  · rw [if_pos h3, if_pos h4]; exact ⟨rfl, h.thr 0⟩
  rw [if_neg (show ¬ pKnown t (nI i) = false by rw [h3]; decide), if_neg (show ¬ qObj S (nI i) = false by rw [h4]; decide)]
  have kv : (pKnown t v = false ∧ qObj S v = false) ∨ (pKnown t v = true ∧ qObj S v = true) := by
    rcases h.known v with ⟨_, _, _, q1, q2⟩ | q
    · exact Or.inr ⟨q1, q2⟩
    · exact Or.inl q
  rcases kv with ⟨w1, w2⟩ | ⟨w1, w2⟩
  · rw [if_pos w1, if_pos w2]; exact ⟨rfl, h.thr 0⟩
  rw [if_neg (show ¬ pKnown t v = false by rw [w1]; decide), if_neg (show ¬ qObj S v = false by rw [w2]; decide)]
  by_cases k7 : aK a j = 7
  rotate_left
  · rw [if_pos (show ¬ kd t (nI j) = 7 from fun q => k7 ((h.d7 hj).mp q)), if_pos (show ¬ mK S (nI j) = 7 from fun q => k7 ((h.m7 hj).mp q))]; exact ⟨rfl, h.thr 0⟩
  rw [if_neg (show ¬ ¬ kd t (nI j) = 7 from fun q => q ((h.d7 hj).mpr k7)), if_neg (show ¬ ¬ mK S (nI j) = 7 from fun q => q ((h.m7 hj).mpr k7)), h.acc hj (Or.inr (Or.inl k7))]
  by_cases hc : qAcc S (nI j) = 3
  rotate_left
  · rw [if_pos hc, if_pos hc]; exact ⟨rfl, h.thr 0⟩
  rw [if_neg (show ¬ ¬ qAcc S (nI j) = 3 from fun q => q hc), if_neg (show ¬ ¬ qAcc S (nI j) = 3 from fun q => q hc)]
  rcases h.key hi with ⟨q1, q2⟩ | ⟨q1, q2, q3⟩
  · rw [if_pos q1, if_pos q2]; exact ⟨rfl, h.thr 0⟩
  rw [if_neg q2, if_neg (show ¬ qKey S (nI i) = false by rw [q1]; decide), h.o2 hj (Or.inr k7)]
  obtain ⟨e, cp, hd, c1, c2, e1, e2, e3, e4, hp⟩ := h.place hj k7 q3
  have hA := h.sa hj
  have hO := h.ol hj
  have hn := h.le
  have hoo := hA.2.2.1
  have hk7 : aK a (aO a j) = 7 := hA.2.2.2.1.trans k7
  have hF := (hA.2.2.2.2.2.2.1 (by unfold kView; omega)).1
  have m10 : mI S 10 (aO a j) = nI e := by rw [mEn, nI_clamp (h.lt hO)] at e2; exact e2
  have vc : ∀ (T : OS) (r : Nat), rF (oR T 3) = rF (oR t 3) → pValCell T (nI j) (nI r) = nI (aB a (aO a j) + 32 + r) := by
    intro T r hT
    have : sta T (nI j) = sta t (nI j) := by rw [sta, sta, hT]
    rw [pValCell, this, h.s1 hj (Or.inr k7), hF, Nat.add_zero, show (32 : Int32) = nI 32 from rfl, nI_add, nI_add, hA.2.2.2.2.1]
  have kc : ∀ (T : OS) (r : Nat), rF (oR T 3) = rF (oR t 3) → pKeyCell T (nI j) (nI r) = nI (aB a (aO a j) + r) := by
    intro T r hT
    have : sta T (nI j) = sta t (nI j) := by rw [sta, sta, hT]
    rw [pKeyCell, this, h.s1 hj (Or.inr k7), hF, Nat.add_zero, nI_add, hA.2.2.2.2.1]
  rcases hp with ⟨p1, p2⟩ | ⟨r, hr, p1, p2, -⟩
  rotate_left
  · rw [p1, p2, if_neg (mI_n (y := 0) (by omega)), if_pos (nI_pos' (by omega)), vc t r rfl]
    exact ⟨rfl, h.entSet hO hoo hk7 hr m10 (by omega) v⟩
  rw [p1, p2, if_pos rfl, if_neg (show ¬ (0 : Int32) ≤ -1 by decide), gAddKey, h.o1 hj, e1, e2, e3, e4]
  have ec : nI cp ≤ nI e ↔ cp ≤ e := nI_leI (by omega) (by omega)
  have ee : nI e = nI cp ↔ e = cp := nI_eq (by omega) (by omega)
  have x32 : (32 : Int32) * nI (aO a j) + nI e = nI (32 * aO a j + e) := by rw [show (32 : Int32) = nI 32 from rfl, pk_mul, nI_add]
  by_cases full : e = cp
  rotate_left
  · rw [if_neg (show ¬ nI cp ≤ nI e from fun q => full (by have := ec.mp q; omega)), if_neg (fun q => full (ee.mp q)), kc t e rfl, if_neg (mI_n (y := 0) (by omega)), nI_1, x32]
    dsimp only
    rw [vc (oSet (oSet t 11 (nI (aB a (aO a j) + e)) (pKeyFor t (nI i))) 9 (nI (aO a j)) (nI (e + 1))) e rfl]
    exact ⟨rfl, h.entAdd hO hoo hk7 (cp' := cp) m10 (by omega) c2 q3 (T := t) (U := mSetThr S 0) h.rw (Or.inr ⟨rfl, by have : rdC t (nI (aO a j)) = rF (oR t 8) (aO a j) := rd_n (h.lt hO); rw [← this]; exact e3⟩) (fun _ _ => rfl) rfl rfl h.bc.2.2.2.2.2.2.2.1 (by
      funext q
      by_cases c : q = aO a j
      · subst c; rw [pk_us]; rw [mCp, nI_clamp (h.lt hO)] at e4; exact e4
      · rw [pk_un c]) (fun _ _ => rfl) rfl rfl rfl⟩
  subst full
  rw [if_pos (ec.mpr (Nat.le_refl _)), if_pos rfl, gGrow, e3]
  obtain ⟨e', cp', -, -, -, -, -, -, -, d8, -⟩ := hd
  have hg : rdG t (nI (aO a j)) = mGr S (nI (aO a j)) := by
    rw [mGr, nI_clamp (h.lt hO)]
    have : rdG t (nI (aO a j)) = cFn (oCt t) 4 (aO a j) := rd_n (h.lt hO)
    rw [this, d8, Nat.mul_zero, Nat.zero_add]
  rw [hg]
  by_cases g0 : mGr S (nI (aO a j)) = 0
  · rw [if_pos g0, if_pos g0, if_pos rfl, if_pos rfl]; exact ⟨rfl, h.thr 0⟩
  rw [if_neg g0, if_neg g0]
  have e32 : nI e = 32 ↔ e = 32 := nI_eq (a := e) (b := 32) (by omega) (by omega)
  have l32 : (32 : Int32) ≤ nI e ↔ 32 ≤ e := nI_leI (a := 32) (b := e) (by omega) (by omega)
  by_cases f32 : e = 32
  · rw [if_pos (l32.mpr (by omega)), if_pos (e32.mpr f32), if_pos rfl, if_pos rfl]; exact ⟨rfl, h.thr 0⟩
  rw [if_neg (show ¬ (32 : Int32) ≤ nI e from fun q => by have := l32.mp q; omega), if_neg (fun q => f32 (e32.mp q))]
  obtain ⟨w, b1, b2, b3, b4⟩ := wide_eq (cp := e) (by omega)
  rw [if_neg (show ¬ ((1 : Int32), oSetSto (oSet t 8 (nI (aO a j)) (gWide (nI e))) (oSto (oSet t 8 (nI (aO a j)) (gWide (nI e))) + (gWide (nI e) - nI e) * pPlace 7)).1 = 0 from (show ¬ (1 : Int32) = 0 by decide)), if_neg (show ¬ nI e = -1 from mI_n (y := 0) (by omega))]
  rw [show fMore S (nI (aO a j)) = nI w by rw [fMore, e4]; exact b4, b3, nI_1, x32]
  dsimp only
  have kc1 := kc (oSetSto (oSet t 8 (nI (aO a j)) (nI w)) (oSto (oSet t 8 (nI (aO a j)) (nI w)) + (nI w - nI e) * pPlace 7)) e rfl
  have vc1 := vc (oSet (oSet (oSetSto (oSet t 8 (nI (aO a j)) (nI w)) (oSto (oSet t 8 (nI (aO a j)) (nI w)) + (nI w - nI e) * pPlace 7)) 11 (nI (aB a (aO a j) + e)) (pKeyFor t (nI i))) 9 (nI (aO a j)) (nI (e + 1))) e rfl
  rw [kc1, vc1]
  exact ⟨rfl, h.entAdd hO hoo hk7 (cp' := w) m10 b1 b2 q3 (T := oSetSto (oSet t 8 (nI (aO a j)) (nI w)) (oSto (oSet t 8 (nI (aO a j)) (nI w)) + (nI w - nI e) * pPlace 7)) (U := mUp (mSetUsed (mSetThr S 0) (mUsed S + 16 * (nI w - nI e))) 8 (nI (aO a j)) (nI w)) (RelA.rwS h.rw (by omega) _ _) (Or.inl rfl) (fun k q => if_neg q) rfl rfl (by
      show oSto t + (nI w - nI e) * pPlace 7 = mUsed S + 16 * (nI w - nI e)
      rw [h.bc.2.2.2.2.2.2.2.1, show pPlace 7 = 16 by decide]
      exact sto_eq) (by
      show upd (mI S 8) (nI (aO a j)).toNatClampNeg (nI w) = _
      rw [nI_clamp (h.lt hO)]) (fun k q => if_neg q) rfl rfl rfl⟩
end REL12
