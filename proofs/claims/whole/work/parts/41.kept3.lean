/-! blocks again: worlds with a rest of any length behind them -/
theorem va_D_perm {A : Nat → Prop} {x y : va_W} (h : va_D A x) (hp : x.Perm y) : va_D A y := by
  have hn : (x.map Prod.fst).Nodup := by
    rw [List.Nodup, List.pairwise_iff_getElem]
    intro i j hi hj hij he
    rw [List.length_map] at hi hj
    rw [List.getElem_map, List.getElem_map] at he
    have := h.1 i j x[i] x[j] (List.getElem?_eq_getElem hi) (List.getElem?_eq_getElem hj) he
    omega
  have hn2 : (y.map Prod.fst).Nodup := (hp.map Prod.fst).nodup_iff.mp hn
  refine ⟨fun i j p q hi hj he => ?_, fun k q hk => ?_⟩
  · rw [List.Nodup, List.pairwise_iff_getElem] at hn2
    obtain ⟨li, ei⟩ := List.getElem?_eq_some_iff.mp hi
    obtain ⟨lj, ej⟩ := List.getElem?_eq_some_iff.mp hj
    rcases Nat.lt_trichotomy i j with c | c | c
    · exact absurd (by rw [List.getElem_map, List.getElem_map, ei, ej]; exact he) (hn2 i j (by rw [List.length_map]; exact li) (by rw [List.length_map]; exact lj) c)
    · exact c
    · exact absurd (by rw [List.getElem_map, List.getElem_map, ei, ej]; exact he.symm) (hn2 j i (by rw [List.length_map]; exact lj) (by rw [List.length_map]; exact li) c)
  · obtain ⟨i, hi⟩ := List.getElem?_of_mem (hp.mem_iff.mpr (List.mem_of_getElem? hk))
    exact h.2 i q hi
theorem perm_cnt {x y : va_W} (h : ∀ f : va_W → Nat, (∀ a b, f (a ++ b) = f a + f b) → f x = f y) : x.Perm y := by
  letI : DecidableEq (Nat × va_E) := fun a b => Classical.propDecidable (a = b)
  exact List.perm_iff_count.mpr (fun a => h (fun l => l.count a) (fun a' b => List.count_append))
theorem va_PD_perm {A : Nat → Prop} {D : va_G} {cl : List vw_C} {x y : va_W} {H : Heap} (h : va_P D cl x H ∧ va_D A x) (hp : x.Perm y) : va_P D cl y H ∧ va_D A y := ⟨va_P_mem (fun _ hq => hp.mem_iff.mpr hq) h.1, va_D_perm h.2 hp⟩
theorem va_PD_subL {A : Nat → Prop} {D : va_G} {cl : List vw_C} {x x' y : va_W} {H : Heap} (is : List Nat) (hn : va_nd is = true) (hs : is.map (fun i => x[i]?) = x'.map some) (h : va_P D cl (x ++ y) H ∧ va_D A (x ++ y)) : va_P D cl (x' ++ y) H ∧ va_D A (x' ++ y) := by
  have hm : ∀ q ∈ x', q ∈ x := by
    intro q hq
    have h9 : some q ∈ x'.map some := List.mem_map.mpr ⟨q, hq, rfl⟩
    rw [← hs, List.mem_map] at h9
    obtain ⟨i, _, hi⟩ := h9
    exact List.mem_of_getElem? hi
  refine ⟨va_P_mem (fun q hq => ?_) h.1, va_D.app ((va_D_left h.2).sub is hn hs) (va_D_right h.2) (fun i j p q hi hj he => ?_)⟩
  · rcases List.mem_append.mp hq with h1 | h1
    · exact List.mem_append_left _ (hm q h1)
    · exact List.mem_append_right _ h1
  · obtain ⟨k, hk⟩ := List.getElem?_of_mem (hm p (List.mem_of_getElem? hi))
    exact va_D_apart h.2 k j p q hk hj he
def kB (Y : Nat → ClassId) : Option (CA × CS) → va_W
  | none => []
  | some q => cW Y q.1 q.2
abbrev oRst (Y : Nat → ClassId) (ad : OA) (t : OS) : va_W := [(oO ad, .inr (3, [.ref (oH ad 0), .ref (oH ad 1), .ref (oH ad 2), .ref (oH ad 3), .ref (oH ad 4), .ref (oH ad 5), .ref (oNow ad), .ref (oKp ad), .int (oCnt t), .int (oSv t)])), (oH ad 0, .inr (2, [.ref (rA (oR t 0)), .int (nI (rZ (oR t 0)))])), (rA (oR t 0), .inl (Y 0, rN (oR t 0), .inl (rF (oR t 0)))), (oH ad 1, .inr (2, [.ref (rA (oR t 1)), .int (nI (rZ (oR t 1)))])), (rA (oR t 1), .inl (Y 0, rN (oR t 1), .inl (rF (oR t 1)))), (oH ad 2, .inr (2, [.ref (rA (oR t 2)), .int (nI (rZ (oR t 2)))])), (rA (oR t 2), .inl (Y 0, rN (oR t 2), .inl (rF (oR t 2)))), (oH ad 3, .inr (2, [.ref (rA (oR t 3)), .int (nI (rZ (oR t 3)))])), (rA (oR t 3), .inl (Y 0, rN (oR t 3), .inl (rF (oR t 3)))), (oH ad 4, .inr (2, [.ref (rA (oR t 4)), .int (nI (rZ (oR t 4)))])), (rA (oR t 4), .inl (Y 0, rN (oR t 4), .inl (rF (oR t 4)))), (oH ad 5, .inr (2, [.ref (rA (oR t 5)), .int (nI (rZ (oR t 5)))])), (rA (oR t 5), .inl (Y 0, rN (oR t 5), .inl (rF (oR t 5))))]
section KSJ
variable {A : Nat → Prop} {D : va_G} {Y : Nat → ClassId} {ad : OA} {T : OS} {cb : CA} {b : CS} {kp wr : va_W} {H : Heap}
/-- the object's Changing beside the kept one, in front of the rest -/
theorem kSplit (h : va_P D vwCl (oW Y ad T ++ (kp ++ (cW Y cb b ++ wr))) H ∧ va_D A (oW Y ad T ++ (kp ++ (cW Y cb b ++ wr)))) : va_P D vwCl ((cW Y (oC ad) (oCt T) ++ cW Y cb b) ++ (oRst Y ad T ++ (kp ++ wr))) H ∧ va_D A ((cW Y (oC ad) (oCt T) ++ cW Y cb b) ++ (oRst Y ad T ++ (kp ++ wr))) := by
  have h1 := va_PD_subL (x' := cW Y (oC ad) (oCt T) ++ oRst Y ad T) [1, 14, 15, 16, 17, 18, 19, 20, 21, 22, 23, 24, 25, 0, 2, 3, 4, 5, 6, 7, 8, 9, 10, 11, 12, 13] (by decide) rfl h
  exact va_PD_perm h1 (perm_cnt (fun f hf => by rw [hf, hf, hf, hf, hf (_ ++ _), hf (cW Y (oC ad) (oCt T)), hf (oRst Y ad T), hf kp]; omega))
theorem kJoin (v : CS) (h : va_P D vwCl ((cW Y (oC ad) v ++ cW Y cb b) ++ (oRst Y ad T ++ (kp ++ wr))) H ∧ va_D A ((cW Y (oC ad) v ++ cW Y cb b) ++ (oRst Y ad T ++ (kp ++ wr)))) : va_P D vwCl (oW Y ad (oPutC T v) ++ (kp ++ (cW Y cb b ++ wr))) H ∧ va_D A (oW Y ad (oPutC T v) ++ (kp ++ (cW Y cb b ++ wr))) := by
  have h1 : va_P D vwCl ((cW Y (oC ad) v ++ oRst Y ad T) ++ (kp ++ (cW Y cb b ++ wr))) H ∧ va_D A ((cW Y (oC ad) v ++ oRst Y ad T) ++ (kp ++ (cW Y cb b ++ wr))) := va_PD_perm h (perm_cnt (fun f hf => by rw [hf, hf, hf, hf, hf (_ ++ _), hf (cW Y (oC ad) v), hf kp (cW Y cb b ++ wr), hf (cW Y cb b)]; omega))
  exact va_PD_subL (x' := oW Y ad (oPutC T v)) [13, 0, 14, 15, 16, 17, 18, 19, 20, 21, 22, 23, 24, 25, 1, 2, 3, 4, 5, 6, 7, 8, 9, 10, 11, 12] (by decide) rfl h1
theorem kJoin2 (h : va_P D vwCl ((cW Y cb b ++ cW Y (oC ad) (oCt T)) ++ (oRst Y ad T ++ (kp ++ wr))) H ∧ va_D A ((cW Y cb b ++ cW Y (oC ad) (oCt T)) ++ (oRst Y ad T ++ (kp ++ wr)))) : va_P D vwCl (oW Y ad T ++ (kp ++ (cW Y cb b ++ wr))) H ∧ va_D A (oW Y ad T ++ (kp ++ (cW Y cb b ++ wr))) := by
  have h1 : va_P D vwCl ((cW Y (oC ad) (oCt T) ++ oRst Y ad T) ++ (kp ++ (cW Y cb b ++ wr))) H ∧ va_D A ((cW Y (oC ad) (oCt T) ++ oRst Y ad T) ++ (kp ++ (cW Y cb b ++ wr))) := va_PD_perm h (perm_cnt (fun f hf => by rw [hf, hf, hf, hf, hf (_ ++ _), hf (cW Y (oC ad) (oCt T)), hf kp (cW Y cb b ++ wr), hf (cW Y cb b)]; omega))
  exact va_PD_subL (x' := oW Y ad T) [13, 0, 14, 15, 16, 17, 18, 19, 20, 21, 22, 23, 24, 25, 1, 2, 3, 4, 5, 6, 7, 8, 9, 10, 11, 12] (by decide) rfl h1
theorem kFlip (h : va_P D vwCl ((cW Y (oC ad) (oCt T) ++ cW Y cb b) ++ kp) H ∧ va_D A ((cW Y (oC ad) (oCt T) ++ cW Y cb b) ++ kp)) : va_P D vwCl ((cW Y cb b ++ cW Y (oC ad) (oCt T)) ++ kp) H ∧ va_D A ((cW Y cb b ++ cW Y (oC ad) (oCt T)) ++ kp) := va_PD_perm h (List.perm_append_comm.append_right kp)
theorem oPR {w wr : va_W} (hP : va_P D vwCl (w ++ wr) H) : va_P D vwCl w H := va_P_mem (fun _ h => List.mem_append_left _ h) hP
end KSJ
section OFputR
variable {p : Program} {l : Launch} {e : Env} {R : Room} {s : State} {m : MethodId} {args : Array Value} {below : List Frame} {meth : Method} {c : Code} {H H0 : Heap} {locs : List Loc} {cells slots : Nat} {Q : State → Prop} {cc : ByteArray} {pc : Nat} {ls : Array Slot} {rest : List Value} {D : va_G} {Y : Nat → ClassId} {ad : OA} {T : OS} {A : Nat → Prop} {Ts : List Cond} {wr : va_W}
theorem oFcntR (hx : p.tables.exec = Jvm.exec) (hb : c.code = cc) (hts : ∀ w ∈ Ts, w.before args s = true) (hin : ∀ w ∈ u_ws RX2 TX2 10, w ∈ Ts) (hown : s.vm.findClass RX2 = some m.cls) (hK : va_K D vwCl (tyA Y) s) (hP : va_P D vwCl (oW Y ad T ++ wr) H) (hD : va_D A (oW Y ad T ++ wr)) (hS : va_S A H0 H locs) {index : Nat} (hlink : (Cond.fieldLink RX2 index "ObjectRows" "count" "I").before args s = true) {x : Int32} (hdg : decode cc pc = .ok (.putfield index, 3)) (kk : ∀ (H1 : Heap) (locs1 : List Loc), va_P D vwCl (oW Y ad (oSetCnt T x) ++ wr) H1 → va_D A (oW Y ad (oSetCnt T x) ++ wr) → va_S A H0 H1 locs1 → W p l e R s m args below meth c H1 locs1 cells slots Q (F0 m (pc + 3) ls rest)) : W p l e R s m args below meth c H locs cells slots Q (F0 m pc ls (.int x :: .ref (oO ad) :: rest)) := va_put (D := D) (ci := 3) (v := .int x) (ty := .int) (C := RX2) (T := TX2) (N := 10) hx hb hts hin tyX2 tyX2_ok nmX2 hown hK hP hD hS 0 rfl rfl 8 (by decide) hlink (fun _ h9 => h9) rfl (by decide +kernel) rfl rfl (Nat.le_of_ble_eq_true rfl) hdg kk
theorem oFsvR (hx : p.tables.exec = Jvm.exec) (hb : c.code = cc) (hts : ∀ w ∈ Ts, w.before args s = true) (hin : ∀ w ∈ u_ws RX2 TX2 10, w ∈ Ts) (hown : s.vm.findClass RX2 = some m.cls) (hK : va_K D vwCl (tyA Y) s) (hP : va_P D vwCl (oW Y ad T ++ wr) H) (hD : va_D A (oW Y ad T ++ wr)) (hS : va_S A H0 H locs) {index : Nat} (hlink : (Cond.fieldLink RX2 index "ObjectRows" "saves" "I").before args s = true) {x : Int32} (hdg : decode cc pc = .ok (.putfield index, 3)) (kk : ∀ (H1 : Heap) (locs1 : List Loc), va_P D vwCl (oW Y ad (oSetSv T x) ++ wr) H1 → va_D A (oW Y ad (oSetSv T x) ++ wr) → va_S A H0 H1 locs1 → W p l e R s m args below meth c H1 locs1 cells slots Q (F0 m (pc + 3) ls rest)) : W p l e R s m args below meth c H locs cells slots Q (F0 m pc ls (.int x :: .ref (oO ad) :: rest)) := va_put (D := D) (ci := 3) (v := .int x) (ty := .int) (C := RX2) (T := TX2) (N := 10) hx hb hts hin tyX2 tyX2_ok nmX2 hown hK hP hD hS 0 rfl rfl 9 (by decide) hlink (fun _ h9 => h9) rfl (by decide +kernel) rfl rfl (Nat.le_of_ble_eq_true rfl) hdg kk
theorem oFstoR {own : String} (hx : p.tables.exec = Jvm.exec) (hb : c.code = cc) (hts : ∀ w ∈ Ts, w.before args s = true) (hin : ∀ w ∈ u_ws RX0 TX0 7, w ∈ Ts) (hown : s.vm.findClass own = some m.cls) (hK : va_K D vwCl (tyA Y) s) (hP : va_P D vwCl (oW Y ad T ++ wr) H) (hD : va_D A (oW Y ad T ++ wr)) (hS : va_S A H0 H locs) {index : Nat} (hlink : (Cond.fieldLink own index "ObjectRows$Changing" "storage" "I").before args s = true) {x : Int32} (hdg : decode cc pc = .ok (.putfield index, 3)) (kk : ∀ (H1 : Heap) (locs1 : List Loc), va_P D vwCl (oW Y ad (oSetSto T x) ++ wr) H1 → va_D A (oW Y ad (oSetSto T x) ++ wr) → va_S A H0 H1 locs1 → W p l e R s m args below meth c H1 locs1 cells slots Q (F0 m (pc + 3) ls rest)) : W p l e R s m args below meth c H locs cells slots Q (F0 m pc ls (.int x :: .ref (oNow ad) :: rest)) := va_put (D := D) (ci := 1) (v := .int x) (ty := .int) (C := RX0) (T := TX0) (N := 7) hx hb hts hin tyX0 tyX0_ok nmX0 hown hK hP hD hS 1 rfl rfl 6 (by decide) hlink (fun _ h9 => h9) rfl (by decide +kernel) rfl rfl (Nat.le_of_ble_eq_true rfl) hdg kk
end OFputR
