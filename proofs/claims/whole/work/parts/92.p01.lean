/-! the relation between the class's picture and the reference's, over one abstract list of objects -/
abbrev AS : Type := (Nat × Nat) × (Nat → Nat) × (Nat → Nat) × (Nat → Nat) × (Nat → Nat) × (Nat → Nat) × (Nat → Nat) × (Nat → Int32)
/-- how many objects, how many saves, the saves' objects; of each object: kind, owner, from, length, where its owner's store begins, number -/
abbrev aN (a : AS) : Nat := a.1.1
abbrev aV (a : AS) : Nat := a.1.2
abbrev aSo (a : AS) : Nat → Nat := a.2.1
abbrev aK (a : AS) : Nat → Nat := a.2.2.1
abbrev aO (a : AS) : Nat → Nat := a.2.2.2.1
abbrev aF (a : AS) : Nat → Nat := a.2.2.2.2.1
abbrev aW (a : AS) : Nat → Nat := a.2.2.2.2.2.1
abbrev aB (a : AS) : Nat → Nat := a.2.2.2.2.2.2.1
abbrev aU (a : AS) : Nat → Int32 := a.2.2.2.2.2.2.2
def kView (k : Nat) : Prop := k = 4 ∨ k = 5 ∨ k = 6
def kNum (k : Nat) : Prop := k = 1 ∨ k = 2 ∨ k = 3 ∨ k = 9 ∨ k = 10
def kElm (k : Nat) : Prop := k = 5 ∨ k = 6 ∨ k = 7
def aWd (a : AS) (o : Nat) : Nat := if aK a o = 7 then 64 else aW a o
/-- the code of an object that is no string -/
def aCd (a : AS) (i : Nat) : Int64 := if aK a i = 0 ∨ aK a i = 8 then qCoded (nI (aK a i)) 0 else if aK a i = 5 ∨ aK a i = 6 then (if aW a i = 0 then qCoded 5 (-1) else qCoded (nI (aK a i)) (nI (4096 * aO a i + 64 * aF a i + aW a i))) else if aK a i = 7 then qCoded 7 (nI (aO a i)) else if aK a i = 11 then qCoded 11 (nI i) else qCoded (nI (aK a i)) (aU a i)
def stA (a : AS) (j : Nat) : Prop :=
  aK a j ≤ 11 ∧ aO a j ≤ j ∧ aO a (aO a j) = aO a j ∧ aK a (aO a j) = aK a j ∧ aB a (aO a j) = aB a j ∧
  (kView (aK a j) → aF a j + aW a j ≤ aW a (aO a j) ∧ aF a (aO a j) = 0 ∧ aW a (aO a j) ≤ 64 ∧ (aK a j ≠ 4 → aW a (aO a j) ≤ 32)) ∧
  (¬ kView (aK a j) → aF a j = 0 ∧ aW a j = 0) ∧ (aK a j = 3 → ∃ v, v ≤ 999 ∧ aU a j = nI v) ∧ (¬ kView (aK a j) → aK a j ≠ 7 → aO a j = j)
def stJ (a : AS) (t : OS) (S : MS) (j : Nat) : Prop :=
  rF (oR t 0) j = nI (aK a j) ∧ mI S 0 j = nI (aK a j) ∧ rF (oR t 2) j = nI (aO a j) ∧ rF (oR t 4) j = nI (aW a j) ∧ mI S 3 j = nI (aW a j) ∧ mI S 2 j = nI (aF a j) ∧
  (kView (aK a j) ∨ aK a j = 7 → mI S 1 j = nI (aO a j) ∧ rF (oR t 3) j = nI (aB a j + aF a j)) ∧
  (kNum (aK a j) → mI S 1 j = aU a j ∧ rF (oR t 1) j = aU a j) ∧ (aK a j = 0 ∨ aK a j = 8 ∨ aK a j = 11 → mI S 1 j = nI j)
def ordd (a : AS) (P : Nat → Prop) (n Z : Nat) : Prop := (∀ o, o < n → aO a o = o → P (aK a o) → aB a o + aWd a o ≤ Z) ∧ ∀ o o', o < o' → o' < n → aO a o = o → aO a o' = o' → P (aK a o) → P (aK a o') → aB a o + aWd a o ≤ aB a o'
def byR (a : AS) (t : OS) (S : MS) : Prop := ∀ o, o < aN a → aO a o = o → aK a o = 4 → ∀ i, i < aW a o → ∃ v, v < 256 ∧ rF (oR t 5) (aB a o + i) = nI v ∧ mI S 4 (64 * o + i) &&& 255 = nI v
def kyR (a : AS) (n : Nat) (ck : Int32) (cd : Int64) : Prop := (∃ v, v ≤ 999 ∧ ck = nI (100 + v) ∧ cd = qCoded 3 (nI v)) ∨ ∃ i, i < n ∧ aK a i ≠ 0 ∧ aK a i ≠ 3 ∧ aK a i ≠ 4 ∧ ck = nI i ∧ cd = aCd a i
def dcR (a : AS) (S : MS) (n q : Nat) (x : Nat → Nat → Int32) (j : Nat) : Prop := ∃ e cp, e ≤ cp ∧ cp ≤ 32 ∧ x 1 j = mI S 6 (100 * q + j) ∧ x 2 j = nI cp ∧ mI S 8 (100 * q + j) = nI cp ∧ x 3 j = nI e ∧ mI S 10 (100 * q + j) = nI e ∧ x 4 j = mI S 9 (100 * q + j) ∧
  ∀ p, p < e → x 5 (aB a j + 32 + p) = mI S 12 (3200 * q + (32 * j + p)) ∧ kyR a n (x 5 (aB a j + p)) (mJ S (3200 * q + (32 * j + p)))
def chR (a : AS) (S : MS) (n q : Nat) (x : Nat → Nat → Int32) : Prop := ∀ j, j < n → x 0 j = mI S 5 (100 * q + j) ∧ (kView (aK a j) ∨ aK a j = 9 → x 1 j = mI S 6 (100 * q + j)) ∧ (¬ kView (aK a j) → aK a j ≠ 7 → aK a j ≠ 9 → x 1 j = 0) ∧ (aK a j ≠ 7 → x 2 j = 0 ∧ x 4 j = 0) ∧
  (aO a j = j → aK a j = 5 ∨ aK a j = 6 → ∀ i, i < aW a j → x 5 (aB a j + i) = mI S 7 (3200 * q + (32 * j + i))) ∧ (aO a j = j → aK a j = 7 → dcR a S n q x j)
/-- a row is good, and no longer than it may be -/
def gdR (r : RV) (m : Nat) : Prop := rOK r ∧ rN r ≤ m
def gdC (b : CS) : Prop := (∀ k, k < 5 → gdR (cR b k) 200) ∧ gdR (cR b 5) 12800
abbrev cFn (b : CS) : Nat → Nat → Int32 := fun k => rF (cR b k)
def svR (a : AS) (t : OS) (K : Nat → Option (CA × CS)) (S : MS) (s : Nat) : Prop := ∃ ca b, K s = some (ca, b) ∧ aSo a s < aN a ∧ aK a (aSo a s) = 11 ∧ rF (oR t 1) (aSo a s) = nI s ∧ mI S 13 (s + 1) = nI (aSo a s) ∧ mI S 14 (s + 1) = cSto b ∧ (∀ k, k < 5 → rZ (cR b k) = aSo a s) ∧ rZ (cR b 5) ≤ 64 * aSo a s ∧
  chR a S (aSo a s) (s + 1) (cFn b) ∧ ordd a kElm (aSo a s) (rZ (cR b 5)) ∧ ∃ z, z ≤ 64 * aSo a s ∧ rF (oR t 3) (aSo a s) = nI z ∧ ordd a (fun k => k = 4) (aSo a s) z
def bcR (a : AS) (t : OS) (S : MS) : Prop := oCnt t = nI (aN a) ∧ mMany S = nI (aN a) ∧ 0 ≤ aN a ∧ aN a ≤ 100 ∧ oSv t = nI (aV a) ∧ mSaves S = nI (aV a) ∧ aV a ≤ 3 ∧ oSto t = mUsed S ∧ (∀ j, mI S 5 j = 0 ∨ mI S 5 j = 1) ∧ ∀ j, mI S 9 j = 0 ∨ mI S 9 j = 1
def rwR (a : AS) (t : OS) : Prop := (∀ k, k < 11 → k ≠ 5 → gdR (oR t k) 200 ∧ rZ (oR t k) = aN a) ∧ gdR (oR t 5) 12800 ∧ rZ (oR t 5) ≤ 64 * aN a ∧ gdR (oR t 11) 12800 ∧ rZ (oR t 11) ≤ 64 * aN a
def RelA (a : AS) (t : OS) (K : Nat → Option (CA × CS)) (S : MS) : Prop :=
  bcR a t S ∧ rwR a t ∧ (∀ j, j < aN a → stA a j ∧ stJ a t S j) ∧ byR a t S ∧ ordd a (fun k => k = 4) (aN a) (rZ (oR t 5)) ∧ ordd a kElm (aN a) (rZ (oR t 11)) ∧ chR a S (aN a) 0 (cFn (oCt t)) ∧
  (∀ s, s < aV a → svR a t K S s) ∧ (∀ s s', s < s' → s' < aV a → aSo a s < aSo a s') ∧ (∀ j, j < aN a → aK a j = 11 → ∃ s, s < aV a ∧ aSo a s = j) ∧ ∀ s q, s < 3 → K s = some q → gdC q.2
