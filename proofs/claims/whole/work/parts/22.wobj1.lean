/-! the object's own writes, over a state variable; its writing methods as functions -/
abbrev oSet (t : OS) (k : Nat) (i v : Int32) : OS := oPut t k (rSet (oR t k) i v)
theorem ok_set {r : RV} {i v : Int32} (h : rOK r) : rOK (rSet r i v) := by
  refine ⟨h.1, fun j hj => ?_, h.2.2⟩
  show rset (rF r) (rN r) i v j = 0
  unfold rset
  split
  · exact h.2.1 j hj
  · split
    · exact h.2.1 j hj
    · rename_i h1 h2
      have := vp_in_iff.mp (inbR h.1 h1 h2)
      obtain ⟨q, hq, rfl⟩ := nI_of h1
      rw [nI_toInt hq] at this
      unfold upd
      rw [nI_clamp hq, if_neg (by have : rN r ≤ j := hj; omega)]
      exact h.2.1 j hj
theorem ok_put {t : OS} {k : Nat} {r : RV} (h : oOK t) (hr : rOK r) : oOK (oPut t k r) := by
  intro j hj
  show rOK (if j = k then r else t.1 j)
  split
  · exact hr
  · exact h j hj
theorem ok_oset {t : OS} {k : Nat} {i v : Int32} (h : oOK t) (hk : k < 12) : oOK (oSet t k i v) := ok_put h (ok_set (h k hk))
section OFput
variable {p : Program} {l : Launch} {e : Env} {R : Room} {s : State} {m : MethodId} {args : Array Value} {below : List Frame} {meth : Method} {c : Code} {H H0 : Heap} {locs : List Loc} {cells slots : Nat} {Q : State → Prop} {cc : ByteArray} {pc : Nat} {ls : Array Slot} {rest : List Value} {D : va_G} {Y : Nat → ClassId} {ad : OA} {T : OS} {A : Nat → Prop} {Ts : List Cond}
theorem oFcnt (hx : p.tables.exec = Jvm.exec) (hb : c.code = cc) (hts : ∀ w ∈ Ts, w.before args s = true) (hin : ∀ w ∈ u_ws RX2 TX2 10, w ∈ Ts) (hown : s.vm.findClass RX2 = some m.cls) (hK : va_K D vwCl (tyA Y) s) (hP : va_P D vwCl (oW Y ad T) H) (hD : va_D A (oW Y ad T)) (hS : va_S A H0 H locs) {index : Nat} (hlink : (Cond.fieldLink RX2 index "ObjectRows" "count" "I").before args s = true) {x : Int32} (hdg : decode cc pc = .ok (.putfield index, 3)) (kk : ∀ (H1 : Heap) (locs1 : List Loc), va_P D vwCl (oW Y ad (oSetCnt T x)) H1 → va_D A (oW Y ad (oSetCnt T x)) → va_S A H0 H1 locs1 → W p l e R s m args below meth c H1 locs1 cells slots Q (F0 m (pc + 3) ls rest)) : W p l e R s m args below meth c H locs cells slots Q (F0 m pc ls (.int x :: .ref (oO ad) :: rest)) := va_put (D := D) (ci := 3) (v := .int x) (ty := .int) (C := RX2) (T := TX2) (N := 10) hx hb hts hin tyX2 tyX2_ok nmX2 hown hK hP hD hS 0 rfl rfl 8 (by decide) hlink (fun _ h9 => h9) rfl (by decide +kernel) rfl rfl (Nat.le_of_ble_eq_true rfl) hdg kk
theorem oFsv (hx : p.tables.exec = Jvm.exec) (hb : c.code = cc) (hts : ∀ w ∈ Ts, w.before args s = true) (hin : ∀ w ∈ u_ws RX2 TX2 10, w ∈ Ts) (hown : s.vm.findClass RX2 = some m.cls) (hK : va_K D vwCl (tyA Y) s) (hP : va_P D vwCl (oW Y ad T) H) (hD : va_D A (oW Y ad T)) (hS : va_S A H0 H locs) {index : Nat} (hlink : (Cond.fieldLink RX2 index "ObjectRows" "saves" "I").before args s = true) {x : Int32} (hdg : decode cc pc = .ok (.putfield index, 3)) (kk : ∀ (H1 : Heap) (locs1 : List Loc), va_P D vwCl (oW Y ad (oSetSv T x)) H1 → va_D A (oW Y ad (oSetSv T x)) → va_S A H0 H1 locs1 → W p l e R s m args below meth c H1 locs1 cells slots Q (F0 m (pc + 3) ls rest)) : W p l e R s m args below meth c H locs cells slots Q (F0 m pc ls (.int x :: .ref (oO ad) :: rest)) := va_put (D := D) (ci := 3) (v := .int x) (ty := .int) (C := RX2) (T := TX2) (N := 10) hx hb hts hin tyX2 tyX2_ok nmX2 hown hK hP hD hS 0 rfl rfl 9 (by decide) hlink (fun _ h9 => h9) rfl (by decide +kernel) rfl rfl (Nat.le_of_ble_eq_true rfl) hdg kk
theorem oFsto {own : String} (hx : p.tables.exec = Jvm.exec) (hb : c.code = cc) (hts : ∀ w ∈ Ts, w.before args s = true) (hin : ∀ w ∈ u_ws RX0 TX0 7, w ∈ Ts) (hown : s.vm.findClass own = some m.cls) (hK : va_K D vwCl (tyA Y) s) (hP : va_P D vwCl (oW Y ad T) H) (hD : va_D A (oW Y ad T)) (hS : va_S A H0 H locs) {index : Nat} (hlink : (Cond.fieldLink own index "ObjectRows$Changing" "storage" "I").before args s = true) {x : Int32} (hdg : decode cc pc = .ok (.putfield index, 3)) (kk : ∀ (H1 : Heap) (locs1 : List Loc), va_P D vwCl (oW Y ad (oSetSto T x)) H1 → va_D A (oW Y ad (oSetSto T x)) → va_S A H0 H1 locs1 → W p l e R s m args below meth c H1 locs1 cells slots Q (F0 m (pc + 3) ls rest)) : W p l e R s m args below meth c H locs cells slots Q (F0 m pc ls (.int x :: .ref (oNow ad) :: rest)) := va_put (D := D) (ci := 1) (v := .int x) (ty := .int) (C := RX0) (T := TX0) (N := 7) hx hb hts hin tyX0 tyX0_ok nmX0 hown hK hP hD hS 1 rfl rfl 6 (by decide) hlink (fun _ h9 => h9) rfl (by decide +kernel) rfl rfl (Nat.le_of_ble_eq_true rfl) hdg kk
end OFput
def gLower (t : OS) (x v : Int32) : Int32 × OS := if pFirst (kd t x) = 0 then (-3, t) else if ¬ v ≤ pAcc t x then (-3, t) else (1, oSet t 7 (pHolder t x) v)
def gGrowA (t : OS) (x v : Int32) : Int32 × OS := if ¬ kd t x = 7 then (-3, t) else (1, oSet t 10 (ow t x) v)
def gAttr (t : OS) (x w v : Int32) : Int32 × OS := if pKnown t x = false then (-1, t) else if w < 0 then (-2, t) else if 2 < w then (-2, t) else if pWithin v (if w = 1 then 3 else 1) = false then (-2, t) else if w = 0 then (1, oSet t 6 x v) else if w = 1 then gLower t x v else gGrowA t x v
def gPut (t : OS) (x i v : Int32) : Int32 × OS := if pKnown t x = false then (-1, t) else if ¬ kd t x = 4 ∧ ¬ kd t x = 5 then (-3, t) else if kd t x = 5 ∧ pKnown t v = false then (-1, t) else if pHasEl t x i = false then (-2, t) else if kd t x = 4 ∧ pWithin v 255 = false then (-2, t) else if ¬ pAcc t x = 3 then (-3, t) else if kd t x = 4 then (1, oSet t 5 (sta t x + i) v) else (1, oSet t 11 (sta t x + i) v)
