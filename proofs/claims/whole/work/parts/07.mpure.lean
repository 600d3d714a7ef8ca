/-! the reference: its picture, and what its reading methods answer -/
abbrev MA : Type := Nat × (Nat → Nat)
abbrev MS : Type := (Int32 × Int32 × Int32 × Int32) × (Nat → Nat → Int32) × (Nat → Int64)
abbrev mO (ad : MA) : Nat := ad.1
abbrev mH (ad : MA) (k : Nat) : Nat := ad.2 k
abbrev mThr (t : MS) : Int32 := t.1.1
abbrev mMany (t : MS) : Int32 := t.1.2.1
abbrev mUsed (t : MS) : Int32 := t.1.2.2.1
abbrev mSaves (t : MS) : Int32 := t.1.2.2.2
abbrev mI (t : MS) (k : Nat) : Nat → Int32 := t.2.1 k
abbrev mJ (t : MS) : Nat → Int64 := t.2.2
abbrev mW (Y : Nat → ClassId) (ad : MA) (t : MS) : va_W := [(mO ad, .inr (4, [.int (mThr t), .int (mMany t), .int (mUsed t), .int (mSaves t), .ref (mH ad 0), .ref (mH ad 1), .ref (mH ad 2), .ref (mH ad 3), .ref (mH ad 4), .ref (mH ad 5), .ref (mH ad 6), .ref (mH ad 7), .ref (mH ad 8), .ref (mH ad 9), .ref (mH ad 10), .ref (mH ad 11), .ref (mH ad 12), .ref (mH ad 13), .ref (mH ad 14)])),
  (mH ad 0, .inl (Y 0, 100, .inl (mI t 0))), (mH ad 1, .inl (Y 0, 100, .inl (mI t 1))), (mH ad 2, .inl (Y 0, 100, .inl (mI t 2))), (mH ad 3, .inl (Y 0, 100, .inl (mI t 3))), (mH ad 4, .inl (Y 1, 6400, .inl (mI t 4))), (mH ad 5, .inl (Y 2, 400, .inl (mI t 5))), (mH ad 6, .inl (Y 0, 400, .inl (mI t 6))), (mH ad 7, .inl (Y 0, 12800, .inl (mI t 7))), (mH ad 8, .inl (Y 0, 400, .inl (mI t 8))), (mH ad 9, .inl (Y 2, 400, .inl (mI t 9))), (mH ad 10, .inl (Y 0, 400, .inl (mI t 10))), (mH ad 11, .inl (Y 3, 12800, .inr (.inl (mJ t)))), (mH ad 12, .inl (Y 0, 12800, .inl (mI t 12))), (mH ad 13, .inl (Y 0, 4, .inl (mI t 13))), (mH ad 14, .inl (Y 0, 4, .inl (mI t 14)))]
def mK (t : MS) (o : Int32) : Int32 := mI t 0 o.toNatClampNeg
def mNu (t : MS) (o : Int32) : Int32 := mI t 1 o.toNatClampNeg
def mFr (t : MS) (o : Int32) : Int32 := mI t 2 o.toNatClampNeg
def mL (t : MS) (o : Int32) : Int32 := mI t 3 o.toNatClampNeg
def mBy (t : MS) (o : Int32) : Int32 := mI t 4 o.toNatClampNeg
def mEx (t : MS) (o : Int32) : Int32 := mI t 5 o.toNatClampNeg
def mAc (t : MS) (o : Int32) : Int32 := mI t 6 o.toNatClampNeg
def mEl (t : MS) (o : Int32) : Int32 := mI t 7 o.toNatClampNeg
def mCp (t : MS) (o : Int32) : Int32 := mI t 8 o.toNatClampNeg
def mGr (t : MS) (o : Int32) : Int32 := mI t 9 o.toNatClampNeg
def mEn (t : MS) (o : Int32) : Int32 := mI t 10 o.toNatClampNeg
def mKe (t : MS) (o : Int32) : Int64 := mJ t o.toNatClampNeg
def mVa (t : MS) (o : Int32) : Int32 := mI t 12 o.toNatClampNeg
def mSo (t : MS) (o : Int32) : Int32 := mI t 13 o.toNatClampNeg
def mSu (t : MS) (o : Int32) : Int32 := mI t 14 o.toNatClampNeg
theorem lgc_lt {x y : Int64} (h : lg_cmp x y < 0) : x < y := by
  unfold lg_cmp at h
  by_cases h1 : y < x
  · simp [h1] at h
  · by_cases h2 : x = y
    · simp [h2] at h
    · exact Int64.lt_of_le_of_ne (Int64.not_lt.mp h1) h2
theorem lgc_nlt {x y : Int64} (h : ¬ lg_cmp x y < 0) : ¬ x < y := by
  intro h1
  apply h
  unfold lg_cmp
  have h2 : ¬ y < x := Int64.not_lt.mpr (Int64.le_of_lt h1)
  have h3 : ¬ x = y := fun e => by subst e; exact Int64.lt_irrefl h1
  simp [h2, h3]
theorem lgc_eq {x y : Int64} (h : lg_cmp x y = 0) : x = y := by
  unfold lg_cmp at h
  by_cases h1 : y < x
  · simp [h1] at h
  · by_cases h2 : x = y
    · exact h2
    · simp [h1, h2] at h
theorem lgc_ne {x y : Int64} (h : ¬ lg_cmp x y = 0) : ¬ x = y := by
  intro e
  subst e
  apply h
  unfold lg_cmp
  simp
theorem nnstep {M z y : Int32} (c : ¬ M ≤ z) (h : ¬ z < 0) (e : y = z + 1) : ¬ y < 0 := by
  subst e
  have h1 : z.toInt < M.toInt := Int32.lt_iff_toInt_lt.mp (Int32.not_le.mp c)
  have h0 : 0 ≤ z.toInt := by
    have := Int32.not_lt.mp h
    exact Int32.le_iff_toInt_le.mp this
  have h2 : (z + 1).toInt = z.toInt + 1 := by
    rw [Int32.toInt_add, show (1 : Int32).toInt = 1 from rfl]
    have a3 := M.toInt_lt
    rw [Int.bmod_eq_of_le (by omega) (by omega)]
  intro h3
  have := Int32.lt_iff_toInt_lt.mp h3
  rw [h2, show (0 : Int32).toInt = 0 from rfl] at this
  omega
def qObj (t : MS) (o : Int32) : Bool := !decide (o < 0) && !decide (mMany t ≤ o)
def qWithin (v a b : Int32) : Bool := !decide (v < a) && !decide (b < v)
def qView (t : MS) (o : Int32) : Bool := qWithin (mK t o) 4 6
def qHolder (t : MS) (o : Int32) : Int32 := if mK t o = 7 then mNu t o else o
def qHasAcc (t : MS) (o : Int32) : Bool := qWithin (mK t o) 4 7 || decide (mK t o = 9)
def qAcc (t : MS) (o : Int32) : Int32 := mAc t (qHolder t o)
def qSize (t : MS) (k z : Int32) : Bool := if k = 2 then qWithin z 0 1 else if k = 3 then qWithin z 0 999 else if k = 4 then qWithin z 0 64 else if k = 5 ∨ k = 7 then qWithin z 0 32 else if k = 6 then qWithin z 0 32 && !decide (mMany t < z) else true
def qByte (t : MS) (o i : Int32) : Int32 := mBy t (64 * mNu t o + mFr t o + i) &&& 255
def qNameL (t : MS) (o : Int32) : Nat → Int32 → Int32 → Int32
  | 0, _, _ => 0
  | n + 1, k, v => if mL t o ≤ k then v else if qByte t o k < 48 then -1 else if 57 < qByte t o k then -1 else qNameL t o n (k + 1) (10 * v + qByte t o k - 48)
def qName (t : MS) (o : Int32) : Int32 := if mL t o < 1 then -1 else if 3 < mL t o then -1 else if ¬ mL t o ≤ 1 ∧ qByte t o 0 = 48 then -1 else if qAcc t o < 2 then -1 else qNameL t o ((mL t o).toInt.toNat + 1) 0 0
def qCoded (k v : Int32) : Int64 := k.toInt64 <<< ((40 : Int32).toInt64 &&& 63) ||| v.toInt64 &&& 4294967295
def qCode (t : MS) (o : Int32) : Int64 := if mK t o = 0 ∨ mK t o = 8 then qCoded (mK t o) 0 else if mK t o = 4 then (if 0 ≤ qName t o then qCoded 3 (qName t o) else -1) else if mK t o = 5 ∨ mK t o = 6 then (if mL t o = 0 then qCoded 5 (-1) else qCoded (mK t o) (4096 * mNu t o + 64 * mFr t o + mL t o)) else qCoded (mK t o) (mNu t o)
def qOx (t : MS) (a k : Int32) : Int32 := if mL t a ≤ k then -1 else qByte t a k
def qOfin (t : MS) (a b k : Int32) : Int32 := if qOx t b k ≤ qOx t a k then (if qOx t a k ≤ qOx t b k then 0 else 1) else -1
def qOrdL (t : MS) (a b : Int32) : Nat → Int32 → Int32
  | 0, _ => 0
  | n + 1, k => if mL t a ≤ k then qOfin t a b k else if mL t b ≤ k then qOfin t a b k else if qByte t a k = qByte t b k then qOrdL t a b n (k + 1) else qOfin t a b k
def qOrd (t : MS) (a b : Int32) : Int32 := qOrdL t a b ((mL t a).toInt.toNat + 1) 0
def qKey (t : MS) (o : Int32) : Bool := !decide (mK t o = 0) && !decide (qCode t o < 0)
def qPlaceL (t : MS) (d : Int32) (key : Int64) : Nat → Int32 → Int32
  | 0, _ => 0
  | n + 1, k => if mEn t d ≤ k then -1 else if mKe t (32 * d + k) = key then 32 * d + k else qPlaceL t d key n (k + 1)
def qPlace (t : MS) (d : Int32) (key : Int64) : Int32 := qPlaceL t d key ((mEn t d).toInt.toNat + 1) 0
