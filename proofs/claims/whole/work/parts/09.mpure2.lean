/-! reading methods depend on few arrays -/
theorem qByte_cg {t u : MS} {o i : Int32} (h1 : mI u 1 = mI t 1) (h2 : mI u 2 = mI t 2) (h4 : mI u 4 = mI t 4) : qByte u o i = qByte t o i := by
  simp only [qByte, mBy, mNu, mFr, h1, h2, h4]
theorem qAcc_cg {t u : MS} {o : Int32} (h0 : mI u 0 = mI t 0) (h1 : mI u 1 = mI t 1) (h6 : mI u 6 = mI t 6) : qAcc u o = qAcc t o := by
  have a0 : ∀ o, mK u o = mK t o := fun o => by simp only [mK, h0]
  have a1 : ∀ o, mNu u o = mNu t o := fun o => by simp only [mNu, h1]
  have a6 : ∀ o, mAc u o = mAc t o := fun o => by simp only [mAc, h6]
  simp only [qAcc, qHolder, a0, a1, a6]
theorem qNameL_cg {t u : MS} {o : Int32} (h1 : mI u 1 = mI t 1) (h2 : mI u 2 = mI t 2) (h3 : mI u 3 = mI t 3) (h4 : mI u 4 = mI t 4) : ∀ (n : Nat) (k v : Int32), qNameL u o n k v = qNameL t o n k v
  | 0, _, _ => rfl
  | n + 1, k, v => by
    have hb : ∀ i, qByte u o i = qByte t o i := fun i => qByte_cg h1 h2 h4
    have hl : mL u o = mL t o := by simp only [mL, h3]
    simp only [qNameL, hb, hl, qNameL_cg h1 h2 h3 h4 n]
theorem qName_cg {t u : MS} {o : Int32} (h0 : mI u 0 = mI t 0) (h1 : mI u 1 = mI t 1) (h2 : mI u 2 = mI t 2) (h3 : mI u 3 = mI t 3) (h4 : mI u 4 = mI t 4) (h6 : mI u 6 = mI t 6) : qName u o = qName t o := by
  have hb : ∀ i, qByte u o i = qByte t o i := fun i => qByte_cg h1 h2 h4
  have hl : mL u o = mL t o := by simp only [mL, h3]
  have ha : qAcc u o = qAcc t o := qAcc_cg h0 h1 h6
  simp only [qName, hb, hl, ha, qNameL_cg h1 h2 h3 h4]
theorem qCode_cg {t u : MS} {o : Int32} (h0 : mI u 0 = mI t 0) (h1 : mI u 1 = mI t 1) (h2 : mI u 2 = mI t 2) (h3 : mI u 3 = mI t 3) (h4 : mI u 4 = mI t 4) (h6 : mI u 6 = mI t 6) : qCode u o = qCode t o := by
  have hn : qName u o = qName t o := qName_cg h0 h1 h2 h3 h4 h6
  have a0 : ∀ o, mK u o = mK t o := fun o => by simp only [mK, h0]
  have a1 : ∀ o, mNu u o = mNu t o := fun o => by simp only [mNu, h1]
  have a2 : ∀ o, mFr u o = mFr t o := fun o => by simp only [mFr, h2]
  have a3 : ∀ o, mL u o = mL t o := fun o => by simp only [mL, h3]
  simp only [qCode, hn, a0, a1, a2, a3]
theorem qKey_cg {t u : MS} {o : Int32} (h0 : mI u 0 = mI t 0) (h1 : mI u 1 = mI t 1) (h2 : mI u 2 = mI t 2) (h3 : mI u 3 = mI t 3) (h4 : mI u 4 = mI t 4) (h6 : mI u 6 = mI t 6) : qKey u o = qKey t o := by
  have hn : qCode u o = qCode t o := qCode_cg h0 h1 h2 h3 h4 h6
  have a0 : ∀ o, mK u o = mK t o := fun o => by simp only [mK, h0]
  simp only [qKey, hn, a0]
theorem qOrdL_cg {t u : MS} {a b : Int32} (h1 : mI u 1 = mI t 1) (h2 : mI u 2 = mI t 2) (h3 : mI u 3 = mI t 3) (h4 : mI u 4 = mI t 4) : ∀ (n : Nat) (k : Int32), qOrdL u a b n k = qOrdL t a b n k
  | 0, _ => rfl
  | n + 1, k => by
    have hb : ∀ o i, qByte u o i = qByte t o i := fun o i => qByte_cg h1 h2 h4
    have hl : ∀ o, mL u o = mL t o := fun o => by simp only [mL, h3]
    have hx : ∀ o k, qOx u o k = qOx t o k := fun o k => by simp only [qOx, hb, hl]
    have hf : ∀ k, qOfin u a b k = qOfin t a b k := fun k => by simp only [qOfin, hx]
    simp only [qOrdL, hf, hb, hl, qOrdL_cg h1 h2 h3 h4 n]
theorem qOrd_cg {t u : MS} {a b : Int32} (h1 : mI u 1 = mI t 1) (h2 : mI u 2 = mI t 2) (h3 : mI u 3 = mI t 3) (h4 : mI u 4 = mI t 4) : qOrd u a b = qOrd t a b := by
  have hl : mL u a = mL t a := by simp only [mL, h3]
  simp only [qOrd, hl, qOrdL_cg h1 h2 h3 h4]
theorem qPlaceL_cg {t u : MS} {d : Int32} {key : Int64} (h10 : mI u 10 = mI t 10) (hj : mJ u = mJ t) : ∀ (n : Nat) (k : Int32), qPlaceL u d key n k = qPlaceL t d key n k
  | 0, _ => rfl
  | n + 1, k => by
    have h1 : mEn u d = mEn t d := by simp only [mEn, h10]
    have h2 : ∀ i, mKe u i = mKe t i := fun i => by simp only [mKe, hj]
    simp only [qPlaceL, h1, h2, qPlaceL_cg h10 hj n]
theorem qPlace_cg {t u : MS} {d : Int32} {key : Int64} (h10 : mI u 10 = mI t 10) (hj : mJ u = mJ t) : qPlace u d key = qPlace t d key := by
  have h1 : mEn u d = mEn t d := by simp only [mEn, h10]
  simp only [qPlace, h1, qPlaceL_cg h10 hj]
/-! the reference's state behind a write; what must hold of an object so that no index falls outside -/
abbrev mSetThr (t : MS) (v : Int32) : MS := (t.1, t.2.1, (v, t.2.2.1.2), t.2.2.2)
abbrev mSetMany (t : MS) (v : Int32) : MS := (t.1, t.2.1, (t.2.2.1.1, v, t.2.2.1.2.2), t.2.2.2)
abbrev mSetUsed (t : MS) (v : Int32) : MS := (t.1, t.2.1, (t.2.2.1.1, t.2.2.1.2.1, v, t.2.2.1.2.2.2), t.2.2.2)
abbrev mSetSaves (t : MS) (v : Int32) : MS := (t.1, t.2.1, (t.2.2.1.1, t.2.2.1.2.1, t.2.2.1.2.2.1, v), t.2.2.2)
abbrev mUp (t : MS) (k : Nat) (i v : Int32) : MS := (t.1, t.2.1, t.2.2.1, (fun j => if j = k then upd (t.2.2.2.1 k) i.toNatClampNeg v else t.2.2.2.1 j), t.2.2.2.2)
abbrev mUpJ (t : MS) (i : Int32) (v : Int64) : MS := (t.1, t.2.1, t.2.2.1, t.2.2.2.1, vp_updL t.2.2.2.2 i.toNatClampNeg v)
theorem in400 {o : Int32} (h : vp_in o 100) : vp_in o 400 := by
  rw [vp_in_iff] at h ⊢
  omega
def mV (t : MS) (o : Int32) : Prop := vp_in o 100 ∧ vp_in (qHolder t o) 400 ∧ (mK t o = 4 → ∀ i : Int32, ¬ i < 0 → ¬ mL t o ≤ i → vp_in (64 * mNu t o + mFr t o + i) 6400) ∧ (qView t o = true → ∀ i, qWithin i 0 (mL t o - 1) = true → ¬ i < 0 ∧ ¬ mL t o ≤ i) ∧ (qView t o = true → ¬ mK t o = 4 → ∀ i : Int32, ¬ i < 0 → ¬ mL t o ≤ i → vp_in (32 * mNu t o + mFr t o + i) 12800) ∧ (mK t o = 7 → vp_in (mNu t o) 400 ∧ (∀ k : Int32, ¬ k < 0 → ¬ mEn t (mNu t o) ≤ k → vp_in (32 * mNu t o + k) 12800) ∧ (∀ key, 0 ≤ qPlace t (mNu t o) key → vp_in (qPlace t (mNu t o) key) 12800))
def fGet (t : MS) (o i : Int32) : Int32 := if qObj t o = false then -1 else if qView t o = false then -3 else if ¬ 2 ≤ qAcc t o then -3 else if qWithin i 0 (mL t o - 1) = false then 0 else if mK t o = 4 then qByte t o i else mEl t (32 * mNu t o + mFr t o + i)
def fThr (t : MS) (o i : Int32) : Int32 := if qObj t o = true ∧ qView t o = true ∧ 2 ≤ qAcc t o ∧ qWithin i 0 (mL t o - 1) = false then 1 else 0
def fTold (t : MS) (o w : Int32) : Int32 := if qObj t o = false then -1 else if w = 0 then (if mEx t o = 0 then 0 else 1) else if w = 1 then (if qHasAcc t o = true then qAcc t o else 0) else if w = 2 then (if mK t o = 7 ∧ ¬ mGr t (mNu t o) = 0 then 1 else 0) else if w = 3 then (if qWithin (mK t o) 1 3 = true ∨ mK t o = 9 ∨ mK t o = 10 then mNu t o else 0) else if w = 4 then (if mK t o = 7 then mCp t (mNu t o) else 0) else -2
def fSame (t : MS) (a b : Int32) : Bool := if qObj t a = false then false else if qObj t b = false then false else if mK t a = 4 ∧ qAcc t a < 2 then false else if mK t b = 4 ∧ ¬ 2 ≤ qAcc t b then false else if mK t a = 4 ∧ mK t b = 4 then decide (qOrd t a b = 0) else !decide (qCode t a < 0) && decide (qCode t a = qCode t b)
def fCompare (t : MS) (a b : Int32) : Int32 := if qObj t a = false then -1 else if qObj t b = false then -1 else if mK t a = 1 ∧ mK t b = 1 then (if mNu t b ≤ mNu t a then (if mNu t a ≤ mNu t b then 1 else 2) else 0) else if ¬ mK t a = 4 then -3 else if ¬ mK t b = 4 then -3 else if qAcc t a < 2 then -3 else if ¬ 2 ≤ qAcc t b then -3 else 1 + qOrd t a b
def fLength (t : MS) (o : Int32) : Int32 := if qObj t o = false then -1 else if mK t o = 3 then (if 10 ≤ mNu t o then (if 100 ≤ mNu t o then 3 else 2) else 1) else if qView t o = true then mL t o else if mK t o = 7 then mEn t (mNu t o) else -3
def fLook (t : MS) (d k : Int32) : Int32 := if qObj t d = false then -1 else if qObj t k = false then -1 else if ¬ mK t d = 7 then -3 else if qAcc t d < 2 then -3 else if qKey t k = false then -3 else if 0 ≤ qPlace t (mNu t d) (qCode t k) then mVa t (qPlace t (mNu t d) (qCode t k)) else -5
def fKind (t : MS) (o : Int32) : Int32 := if qObj t o = true then mK t o else -1
