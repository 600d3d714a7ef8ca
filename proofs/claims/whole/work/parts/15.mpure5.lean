/-! make, restore of the reference -/
def mkNumB (k : Int32) : Int32 := if qWithin k 1 3 = true ∨ k = 9 ∨ k = 10 then 1 else 0
def mkNum (k z o : Int32) : Int32 := if mkNumB k = 0 then o else z
def mkLen (k z : Int32) : Int32 := if qWithin k 4 6 = true then z else 0
def mkEl (k z o i : Int32) : Int32 := if k = 6 ∧ ¬ z ≤ i then o - z + i else 0
def mkCap (k z : Int32) : Int32 := if k = 7 then z else 0
def mkCost (k z : Int32) : Int32 := if k = 4 then z else if k = 5 then 8 * z else if k = 6 then 4 * z else if k = 7 then 16 * z else 0
def zbS (S : MS) (c z : Nat) : MS := (S.1, (fun k => if k = 4 then (fun j => if 64 * c ≤ j ∧ j < 64 * c + z then vp_nar .byte 0 else S.2.1 4 j) else S.2.1 k), S.2.2)
def elS (k zz o : Int32) (S : MS) (c z : Nat) : MS := (S.1, (fun q => if q = 7 then (fun j => if 32 * c ≤ j ∧ j < 32 * c + z then mkEl k zz o (nI (j - 32 * c)) else S.2.1 7 j) else S.2.1 q), S.2.2)
def fMkSave (t : MS) (sv : Nat) : MS := fCopy (mUp (mUp (mSetSaves (mSetThr t 0) (mSaves t + 1)) 13 (mSaves t + 1) (mMany t)) 14 (mSaves t + 1) (mUsed t)) 0 (sv + 1)
def fMakeS (S : MS) (k z o : Int32) (us : Int32) (c : Nat) : MS := mSetMany (mSetUsed (mUp (mUp (mUp (elS k z o (zbS (mUp (mUp (fBlank S o k (fBlankV k)) 1 o (mkNum k z o)) 3 o (mkLen k z)) c 64) c 32) 8 o (mkCap k z)) 9 o (vp_nar .boolean 0)) 10 o 0) (us + (8 + mkCost k z))) (o + 1)
def fMake (t : MS) (k z : Int32) (c sv : Nat) : Int32 × MS := if qWithin k 0 11 = false then (-1, mSetThr t 0) else if qSize t k z = false then (-2, mSetThr t 0) else if mMany t = 100 ∨ (k = 11 ∧ mSaves t = 3) then (-4, mSetThr t 0) else if k = 11 then (mMany t, fMakeS (fMkSave t sv) k z (mMany t) (mUsed t) c) else (mMany t, fMakeS (mSetThr t 0) k z (mMany t) (mUsed t) c)
theorem zb0 (S : MS) (c : Nat) : S = zbS S c 0 := by
  refine Prod.ext rfl (Prod.ext ?_ rfl)
  funext k
  show S.2.1 k = if k = 4 then _ else _
  by_cases h : k = 4
  · subst h
    rw [if_pos rfl]
    funext j
    rw [if_neg (by omega)]
  · rw [if_neg h]
theorem el0 (k zz o : Int32) (S : MS) (c : Nat) : S = elS k zz o S c 0 := by
  refine Prod.ext rfl (Prod.ext ?_ rfl)
  funext q
  show S.2.1 q = if q = 7 then _ else _
  by_cases h : q = 7
  · subst h
    rw [if_pos rfl]
    funext j
    rw [if_neg (by omega)]
  · rw [if_neg h]
theorem zbStep {S : MS} {o : Int32} {c z : Nat} (ho : o = nI c) (hc : c < 100) (hz : z < 64) : mUp (zbS S c z) 4 (64 * o + nI z) (vp_nar .byte 0) = zbS S c (z + 1) := by
  subst ho
  have e1 : (64 * nI c + nI z).toNatClampNeg = 64 * c + z := ixN (w := 64) rfl rfl (by omega)
  refine Prod.ext rfl (Prod.ext ?_ rfl)
  funext k
  show (if k = 4 then upd _ _ _ else _) = if k = 4 then _ else _
  by_cases h : k = 4
  · subst h
    rw [if_pos rfl, if_pos rfl, e1]
    funext j
    unfold upd
    have h4 : (zbS S c z).2.1 4 j = (if 64 * c ≤ j ∧ j < 64 * c + z then vp_nar .byte 0 else S.2.1 4 j) := rfl
    rw [h4]
    by_cases h1 : j = 64 * c + z
    · rw [if_pos h1, if_pos (by omega)]
    · rw [if_neg h1]
      skip
      by_cases h2 : 64 * c ≤ j ∧ j < 64 * c + z
      · rw [if_pos h2, if_pos (by omega)]
      · rw [if_neg h2, if_neg (by omega)]
  · rw [if_neg h, if_neg h]
    show (if k = 4 then _ else _) = _
    rw [if_neg h]
theorem elStep {S : MS} {kk zz o : Int32} {c z : Nat} (ho : o = nI c) (hc : c < 100) (hz : z < 32) : mUp (elS kk zz o S c z) 7 (32 * o + nI z) (mkEl kk zz o (nI z)) = elS kk zz o S c (z + 1) := by
  have e1 : (32 * o + nI z).toNatClampNeg = 32 * c + z := by rw [ho]; exact ixN (w := 32) rfl rfl (by omega)
  refine Prod.ext rfl (Prod.ext ?_ rfl)
  funext k
  show (if k = 7 then upd _ _ _ else _) = if k = 7 then _ else _
  by_cases h : k = 7
  · subst h
    rw [if_pos rfl, if_pos rfl, e1]
    funext j
    unfold upd
    have h7 : (elS kk zz o S c z).2.1 7 j = (if 32 * c ≤ j ∧ j < 32 * c + z then mkEl kk zz o (nI (j - 32 * c)) else S.2.1 7 j) := rfl
    rw [h7]
    by_cases h1 : j = 32 * c + z
    · rw [if_pos h1, if_pos (by omega), h1, Nat.add_sub_cancel_left]
    · rw [if_neg h1]
      skip
      by_cases h2 : 32 * c ≤ j ∧ j < 32 * c + z
      · rw [if_pos h2, if_pos (by omega)]
      · rw [if_neg h2, if_neg (by omega)]
  · rw [if_neg h, if_neg h]
    show (if k = 7 then _ else _) = _
    rw [if_neg h]
theorem flMany_up {T : MS} {k : Nat} {i v : Int32} : mMany (mUp T k i v) = mMany T := rfl
theorem flMany_upJ {T : MS} {i : Int32} {v : Int64} : mMany (mUpJ T i v) = mMany T := rfl
theorem flMany_thr {T : MS} {v : Int32} : mMany (mSetThr T v) = mMany T := rfl
theorem flMany_many {T : MS} {v : Int32} : mMany (mSetMany T v) = v := rfl
theorem flMany_used {T : MS} {v : Int32} : mMany (mSetUsed T v) = mMany T := rfl
theorem flMany_saves {T : MS} {v : Int32} : mMany (mSetSaves T v) = mMany T := rfl
theorem flMany_copy {T : MS} {a b : Nat} : mMany (fCopy T a b) = mMany T := rfl
theorem flMany_zb {T : MS} {c z : Nat} : mMany (zbS T c z) = mMany T := rfl
theorem flMany_el {kk zz o : Int32} {T : MS} {c z : Nat} : mMany (elS kk zz o T c z) = mMany T := rfl
theorem flMany_blank {T : MS} {o k v : Int32} : mMany (fBlank T o k v) = mMany T := rfl
theorem flUsed_up {T : MS} {k : Nat} {i v : Int32} : mUsed (mUp T k i v) = mUsed T := rfl
theorem flUsed_upJ {T : MS} {i : Int32} {v : Int64} : mUsed (mUpJ T i v) = mUsed T := rfl
theorem flUsed_thr {T : MS} {v : Int32} : mUsed (mSetThr T v) = mUsed T := rfl
theorem flUsed_many {T : MS} {v : Int32} : mUsed (mSetMany T v) = mUsed T := rfl
theorem flUsed_used {T : MS} {v : Int32} : mUsed (mSetUsed T v) = v := rfl
theorem flUsed_saves {T : MS} {v : Int32} : mUsed (mSetSaves T v) = mUsed T := rfl
theorem flUsed_copy {T : MS} {a b : Nat} : mUsed (fCopy T a b) = mUsed T := rfl
theorem flUsed_zb {T : MS} {c z : Nat} : mUsed (zbS T c z) = mUsed T := rfl
theorem flUsed_el {kk zz o : Int32} {T : MS} {c z : Nat} : mUsed (elS kk zz o T c z) = mUsed T := rfl
theorem flUsed_blank {T : MS} {o k v : Int32} : mUsed (fBlank T o k v) = mUsed T := rfl
theorem flSaves_up {T : MS} {k : Nat} {i v : Int32} : mSaves (mUp T k i v) = mSaves T := rfl
theorem flSaves_upJ {T : MS} {i : Int32} {v : Int64} : mSaves (mUpJ T i v) = mSaves T := rfl
theorem flSaves_thr {T : MS} {v : Int32} : mSaves (mSetThr T v) = mSaves T := rfl
theorem flSaves_many {T : MS} {v : Int32} : mSaves (mSetMany T v) = mSaves T := rfl
theorem flSaves_used {T : MS} {v : Int32} : mSaves (mSetUsed T v) = mSaves T := rfl
theorem flSaves_saves {T : MS} {v : Int32} : mSaves (mSetSaves T v) = v := rfl
theorem flSaves_copy {T : MS} {a b : Nat} : mSaves (fCopy T a b) = mSaves T := rfl
theorem flSaves_zb {T : MS} {c z : Nat} : mSaves (zbS T c z) = mSaves T := rfl
theorem flSaves_el {kk zz o : Int32} {T : MS} {c z : Nat} : mSaves (elS kk zz o T c z) = mSaves T := rfl
theorem flSaves_blank {T : MS} {o k v : Int32} : mSaves (fBlank T o k v) = mSaves T := rfl
