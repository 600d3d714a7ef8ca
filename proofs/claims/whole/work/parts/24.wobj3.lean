/-! entries of a dictionary, as functions -/
def gWide (c : Int32) : Int32 := if 32 < 2 * c + 1 then 32 else 2 * c + 1
def gGrow (t : OS) (o : Int32) : Int32 × OS := if rdG t o = 0 then (0, t) else if 32 ≤ rdC t o then (0, t) else (1, oSetSto (oSet t 8 o (gWide (rdC t o))) (oSto (oSet t 8 o (gWide (rdC t o))) + (gWide (rdC t o) - rdC t o) * pPlace 7))
def gAddKey (t : OS) (d k : Int32) : Int32 × OS := if rdC t (ow t d) ≤ rdN t (ow t d) then (if (gGrow t (ow t d)).1 = 0 then (-1, (gGrow t (ow t d)).2) else (rdN t (ow t d), oSet (oSet (gGrow t (ow t d)).2 11 (pKeyCell (gGrow t (ow t d)).2 d (rdN t (ow t d))) k) 9 (ow t d) (rdN t (ow t d) + 1))) else (rdN t (ow t d), oSet (oSet t 11 (pKeyCell t d (rdN t (ow t d))) k) 9 (ow t d) (rdN t (ow t d) + 1))
def gEntry (t : OS) (d k v : Int32) : Int32 × OS := if pKnown t d = false then (-1, t) else if pKnown t k = false then (-1, t) else if pKnown t v = false then (-1, t) else if ¬ kd t d = 7 then (-3, t) else if ¬ pAcc t d = 3 then (-3, t) else if pKeyFor t k = -1 then (-3, t) else if pPlaceOf t d (pKeyFor t k) = -1 then (if (gAddKey t d (pKeyFor t k)).1 = -1 then (-4, (gAddKey t d (pKeyFor t k)).2) else (1, oSet (gAddKey t d (pKeyFor t k)).2 11 (pValCell (gAddKey t d (pKeyFor t k)).2 d (gAddKey t d (pKeyFor t k)).1) v)) else (1, oSet t 11 (pValCell t d (pPlaceOf t d (pKeyFor t k))) v)
theorem ok_sto {t : OS} {v : Int32} (h : oOK t) : oOK (oSetSto t v) := h
theorem ok_cnt {t : OS} {v : Int32} (h : oOK t) : oOK (oSetCnt t v) := h
theorem ok_sv {t : OS} {v : Int32} (h : oOK t) : oOK (oSetSv t v) := h
theorem ok_gGrow {t : OS} {o : Int32} (h : oOK t) : oOK (gGrow t o).2 := by
  unfold gGrow
  split
  · exact h
  · split
    · exact h
    · exact ok_sto (ok_oset h (by decide))
theorem ok_gAddKey {t : OS} {d k : Int32} (h : oOK t) : oOK (gAddKey t d k).2 := by
  unfold gAddKey
  split
  · split
    · exact ok_gGrow h
    · exact ok_oset (ok_oset (ok_gGrow h) (by decide)) (by decide)
  · exact ok_oset (ok_oset h (by decide)) (by decide)
