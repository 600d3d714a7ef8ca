/-! what the class's reading methods answer, as functions of the object's picture -/
theorem bI_01 (b : Bool) : bI b = 0 ∨ bI b = 1 := by cases b <;> simp [bI]
theorem neI {x k : Int32} {a : Int} (h : ¬ x = k) (hk : k.toInt = a) : x.toInt ≠ a := fun e => h (Int32.toInt_inj.mp (e.trans hk.symm))
theorem inbR {i : Int32} {n : Nat} (hn : n < 1000000) (h1 : ¬ i < 0) (h2 : ¬ nI n ≤ i) : vp_in i n := by
  obtain ⟨j, hj, rfl⟩ := nI_of h1
  exact vp_in_nI (by rcases Nat.lt_or_ge j n with q | q; exact q; exact absurd (nI_le q hj) h2) (by omega)
theorem rd_out {r : RV} {i : Int32} (h : rOK r) (h1 : ¬ i < 0) (h2 : nI (rN r) ≤ i) : rd (rF r) i = 0 := by
  obtain ⟨j, hj, rfl⟩ := nI_of h1
  rw [rd, if_neg h1, nI_clamp hj]
  exact h.2.1 j ((nI_leI (by have := h.1; omega) hj).mp h2)
theorem mstep {M z y : Int32} {n : Nat} (c : ¬ M ≤ z) (h : (M.toInt - z.toInt).toNat < n + 1) (e : y = z + 1) : (M.toInt - y.toInt).toNat < n := by
  subst e
  have h1 : z.toInt < M.toInt := by
    have := Int32.not_le.mp c
    exact Int32.lt_iff_toInt_lt.mp this
  have h2 : (z + 1).toInt = z.toInt + 1 := by
    rw [Int32.toInt_add, show (1 : Int32).toInt = 1 from rfl]
    have a1 := z.toInt_lt
    have a2 := z.le_toInt
    have a3 := M.toInt_lt
    rw [Int.bmod_eq_of_le (by omega) (by omega)]
  rw [h2]
  omega
def kd (t : OS) (x : Int32) : Int32 := rd (rF (oR t 0)) x
def nu (t : OS) (x : Int32) : Int32 := rd (rF (oR t 1)) x
def ow (t : OS) (x : Int32) : Int32 := rd (rF (oR t 2)) x
def sta (t : OS) (x : Int32) : Int32 := rd (rF (oR t 3)) x
def len (t : OS) (x : Int32) : Int32 := rd (rF (oR t 4)) x
def rdB (t : OS) (x : Int32) : Int32 := rd (rF (oR t 5)) x
def rdX (t : OS) (x : Int32) : Int32 := rd (rF (oR t 6)) x
def rdA (t : OS) (x : Int32) : Int32 := rd (rF (oR t 7)) x
def rdC (t : OS) (x : Int32) : Int32 := rd (rF (oR t 8)) x
def rdN (t : OS) (x : Int32) : Int32 := rd (rF (oR t 9)) x
def rdG (t : OS) (x : Int32) : Int32 := rd (rF (oR t 10)) x
def rdE (t : OS) (x : Int32) : Int32 := rd (rF (oR t 11)) x
def pKnown (t : OS) (x : Int32) : Bool := !decide (x < 0) && !decide (oCnt t ≤ x)
def pWithin (v m : Int32) : Bool := !decide (v < 0) && !decide (m < v)
def pList (k : Int32) : Bool := decide (k = 5) || decide (k = 6)
def pView (k : Int32) : Bool := decide (k = 4) || pList k
def pHasNum (k : Int32) : Bool := decide (k = 1) || decide (k = 2) || decide (k = 3) || decide (k = 9) || decide (k = 10)
def pFirst (k : Int32) : Int32 := if k = 4 ∨ k = 5 ∨ k = 7 ∨ k = 9 then 3 else if k = 6 then 2 else 0
def pPlace (k : Int32) : Int32 := if k = 4 then 1 else if k = 5 then 8 else if k = 6 then 4 else if k = 7 then 16 else 0
def pOrder (a b : Int32) : Int32 := if a = b then 1 else if b ≤ a then 2 else 0
def pDigits (n : Int32) : Int32 := if 10 ≤ n then (if 100 ≤ n then 3 else 2) else 1
def pFits (t : OS) (k z : Int32) : Bool := if k = 2 then pWithin z 1 else if k = 3 then pWithin z 999 else if k = 4 then pWithin z 64 else if k = 5 then pWithin z 32 else if k = 6 then pWithin z (if oCnt t < 32 then oCnt t else 32) else if k = 7 then pWithin z 32 else true
def pHasEl (t : OS) (x i : Int32) : Bool := !decide (i < 0) && !decide (len t x ≤ i)
def pHasPart (t : OS) (x f n : Int32) : Bool := pWithin f (len t x) && pWithin n (len t x - f)
def pStore (ad : OA) (k : Int32) : Nat := if k = 4 then oH ad 5 else oH ad 11
def pEl (t : OS) (x i : Int32) : Int32 := if kd t x = 4 then rdB t (sta t x + i) else rdE t (sta t x + i)
def pHolder (t : OS) (x : Int32) : Int32 := if kd t x = 7 then ow t x else x
def pAcc (t : OS) (x : Int32) : Int32 := rdA t (pHolder t x)
def pRStr (t : OS) (x : Int32) : Bool := decide (kd t x = 4) && !decide (pAcc t x < 2)
def pAlikeK (t : OS) (k a b : Int32) : Bool := if k = 0 ∨ k = 8 then true else if k = 5 ∨ k = 6 then decide (ow t a = ow t b) && decide (sta t a = sta t b) && decide (len t a = len t b) else if k = 7 then decide (ow t a = ow t b) else if k = 11 then decide (a = b) else decide (nu t a = nu t b)
def pAlikeB (t : OS) (a b : Int32) : Bool := (pList (kd t a) && pList (kd t b) && decide (len t a = 0) && decide (len t b = 0)) || (decide (kd t a = kd t b) && pAlikeK t (kd t a) a b)
def pMinL (t : OS) (a b : Int32) : Int32 := if len t b < len t a then len t b else len t a
/-- the bytes of two strings from place i on, n steps at most -/
def pOrdL (t : OS) (a b : Int32) : Nat → Int32 → Int32
  | 0, _ => 0
  | n + 1, i => if pMinL t a b ≤ i then pOrder (len t a) (len t b) else if pOrder (pEl t a i) (pEl t b i) = 1 then pOrdL t a b n (i + 1) else pOrder (pEl t a i) (pEl t b i)
def pOrdB (t : OS) (a b : Int32) : Int32 := pOrdL t a b ((pMinL t a b).toInt.toNat + 1) 0
/-- the number that a string's bytes are in tens, from place i on -/
def pTenL (t : OS) (x : Int32) : Nat → Int32 → Int32 → Int32
  | 0, _, _ => 0
  | n + 1, i, v => if len t x ≤ i then v else if pWithin (pEl t x i - 48) 9 = false ∨ (0 < i ∧ v = 0) then -1 else pTenL t x n (i + 1) (v * 10 + (pEl t x i - 48))
def pTens (t : OS) (x : Int32) : Int32 := if len t x < 1 then -1 else if 3 < len t x then -1 else pTenL t x ((len t x).toInt.toNat + 1) 0 0
def pName (t : OS) (x : Int32) : Int32 := if kd t x = 3 then nu t x else if pRStr t x = true then pTens t x else -1
def pAlike (t : OS) (a b : Int32) : Bool := if kd t a = 4 ∧ kd t b = 4 then pRStr t a && pRStr t b && decide (pOrdB t a b = 1) else if kd t a = 4 ∨ kd t b = 4 then !decide (pName t a = -1) && decide (pName t a = pName t b) else pAlikeB t a b
def pKeyFor (t : OS) (x : Int32) : Int32 := if kd t x = 0 then -1 else if ¬ kd t x = 4 ∧ ¬ kd t x = 3 then x else if pName t x = -1 then -1 else 100 + pName t x
def pAlikeKeys (t : OS) (a b : Int32) : Bool := if 100 ≤ a ∨ 100 ≤ b then decide (a = b) else pAlikeB t a b
def pKeyCell (t : OS) (d p : Int32) : Int32 := sta t d + p
def pValCell (t : OS) (d p : Int32) : Int32 := sta t d + 32 + p
def pPlaceL (t : OS) (d k : Int32) : Nat → Int32 → Int32
  | 0, _ => 0
  | n + 1, p => if rdN t (ow t d) ≤ p then -1 else if pAlikeKeys t (rdE t (pKeyCell t d p)) k = true then p else pPlaceL t d k n (p + 1)
def pPlaceOf (t : OS) (d k : Int32) : Int32 := pPlaceL t d k ((rdN t (ow t d)).toInt.toNat + 1) 0
def pTold (t : OS) (x w : Int32) : Int32 := if pKnown t x = false then -1 else if w = 0 then rdX t x else if w = 1 then pAcc t x else if w = 2 then rdG t (ow t x) else if w = 3 then (if pHasNum (kd t x) = true then nu t x else 0) else if w = 4 then rdC t (ow t x) else -2
def pSame (t : OS) (a b : Int32) : Bool := pKnown t a && pKnown t b && pAlike t a b
def pCompare (t : OS) (a b : Int32) : Int32 := if pKnown t a = false then -1 else if pKnown t b = false then -1 else if kd t a = 1 ∧ kd t b = 1 then pOrder (nu t a) (nu t b) else if pRStr t a = true ∧ pRStr t b = true then pOrdB t a b else -3
def pLength (t : OS) (x : Int32) : Int32 := if pKnown t x = false then -1 else if kd t x = 3 then pDigits (nu t x) else if kd t x = 4 ∨ kd t x = 5 ∨ kd t x = 6 then len t x else if kd t x = 7 then rdN t (ow t x) else -3
def pLook (t : OS) (d k : Int32) : Int32 := if pKnown t d = false then -1 else if pKnown t k = false then -1 else if ¬ kd t d = 7 then -3 else if pAcc t d < 2 then -3 else if pKeyFor t k = -1 then -3 else if pPlaceOf t d (pKeyFor t k) = -1 then -5 else rdE t (pValCell t d (pPlaceOf t d (pKeyFor t k)))
def pKind (t : OS) (x : Int32) : Int32 := if pKnown t x = true then kd t x else -1
