/-! new arrays of a known kind; the rows' own small steps -/
theorem yI0 {D : va_G} {Y : Nat → ClassId} {cA : ClassId} {s : State} (h : va_K D vwCl (tyA Y ++ [(cA, .int)]) s) : cA = Y 0 := Option.some.inj (((h.2 5 (cA, .int) rfl).2).symm.trans ((h.2 0 (Y 0, .int) rfl).2))
theorem yB1 {D : va_G} {Y : Nat → ClassId} {cA : ClassId} {s : State} (h : va_K D vwCl (tyA Y ++ [(cA, .byte)]) s) : cA = Y 1 := Option.some.inj (((h.2 5 (cA, .byte) rfl).2).symm.trans ((h.2 1 (Y 1, .byte) rfl).2))
theorem yZ2 {D : va_G} {Y : Nat → ClassId} {cA : ClassId} {s : State} (h : va_K D vwCl (tyA Y ++ [(cA, .boolean)]) s) : cA = Y 2 := Option.some.inj (((h.2 5 (cA, .boolean) rfl).2).symm.trans ((h.2 2 (Y 2, .boolean) rfl).2))
theorem yJ3 {D : va_G} {Y : Nat → ClassId} {cA : ClassId} {s : State} (h : va_K D vwCl (tyA Y ++ [(cA, .long)]) s) : cA = Y 3 := Option.some.inj (((h.2 5 (cA, .long) rfl).2).symm.trans ((h.2 3 (Y 3, .long) rfl).2))
theorem cbN {N b : Nat} {ty : FieldType} (hN : N < 10000000) (h : componentBytes ty = b) (hb : b ≤ 8 := by decide) : N * componentBytes ty ≤ 536870912 := by
  rw [h]
  exact Nat.le_trans (Nat.mul_le_mul (Nat.le_of_lt hN) hb) (by decide)
section NW
variable {p : Program} {l : Launch} {e : Env} {R : Room} {s : State} {m : MethodId} {args : Array Value} {below : List Frame} {meth : Method} {c : Code} {H H0 : Heap} {locs : List Loc} {cells slots : Nat} {Q : State → Prop} {cc : ByteArray} {pc : Nat} {ls : Array Slot} {rest : List Value} {D : va_G} {Y : Nat → ClassId} {ws : va_W} {A : Nat → Prop}
theorem nwI (hx : p.tables.exec = Jvm.exec) (hb : c.code = cc) (harr : (Cond.arrayClass .int).before args s = true) (hK : va_K D vwCl (tyA Y) s) (hP : va_P D vwCl ws H) (hD : va_D A ws) (hS : va_S A H0 H locs) (hA : ∀ q, H0.size ≤ q → A q) {n : Int32} (N : Nat) (hn : n = nI N) (hN : N < 10000000) (hcells : cells + 1 ≤ R.cells) (hslots : slots + N ≤ R.slots) (hdg : decode cc pc = .ok (.newarray .int, 2))
    (kk : ∀ (q : Nat) (H1 : Heap), va_P D vwCl (ws ++ [(q, .inl (Y 0, N, .inl (fun _ => 0)))]) H1 → va_D A (ws ++ [(q, .inl (Y 0, N, .inl (fun _ => 0)))]) → va_S A H0 H1 locs → W p l e R s m args below meth c H1 locs (cells + 1) (slots + N) Q (F0 m (pc + 2) ls (.ref q :: rest))) : W p l e R s m args below meth c H locs cells slots Q (F0 m pc ls (.int n :: rest)) := by
  subst hn
  refine va_newa (atype := .int) (ty := .int) hx hb harr rfl hK hP hD hS hA (N' := N) (a0 := (N, .inl (fun _ => 0))) (fun _ => rfl) (nI_pos (by omega)) (nI_clamp (by omega)) (cbN hN rfl) hcells hslots hdg (fun q cA H1 hK1 hP1 hD1 hS1 => ?_)
  obtain rfl : cA = Y 0 := yI0 hK1
  exact kk q H1 hP1 hD1 hS1
theorem nwB (hx : p.tables.exec = Jvm.exec) (hb : c.code = cc) (harr : (Cond.arrayClass .byte).before args s = true) (hK : va_K D vwCl (tyA Y) s) (hP : va_P D vwCl ws H) (hD : va_D A ws) (hS : va_S A H0 H locs) (hA : ∀ q, H0.size ≤ q → A q) {n : Int32} (N : Nat) (hn : n = nI N) (hN : N < 10000000) (hcells : cells + 1 ≤ R.cells) (hslots : slots + N ≤ R.slots) (hdg : decode cc pc = .ok (.newarray .byte, 2))
    (kk : ∀ (q : Nat) (H1 : Heap), va_P D vwCl (ws ++ [(q, .inl (Y 1, N, .inl (fun _ => 0)))]) H1 → va_D A (ws ++ [(q, .inl (Y 1, N, .inl (fun _ => 0)))]) → va_S A H0 H1 locs → W p l e R s m args below meth c H1 locs (cells + 1) (slots + N) Q (F0 m (pc + 2) ls (.ref q :: rest))) : W p l e R s m args below meth c H locs cells slots Q (F0 m pc ls (.int n :: rest)) := by
  subst hn
  refine va_newa (atype := .byte) (ty := .byte) hx hb harr rfl hK hP hD hS hA (N' := N) (a0 := (N, .inl (fun _ => 0))) (fun _ => rfl) (nI_pos (by omega)) (nI_clamp (by omega)) (cbN hN rfl) hcells hslots hdg (fun q cA H1 hK1 hP1 hD1 hS1 => ?_)
  obtain rfl : cA = Y 1 := yB1 hK1
  exact kk q H1 hP1 hD1 hS1
theorem nwZ (hx : p.tables.exec = Jvm.exec) (hb : c.code = cc) (harr : (Cond.arrayClass .boolean).before args s = true) (hK : va_K D vwCl (tyA Y) s) (hP : va_P D vwCl ws H) (hD : va_D A ws) (hS : va_S A H0 H locs) (hA : ∀ q, H0.size ≤ q → A q) {n : Int32} (N : Nat) (hn : n = nI N) (hN : N < 10000000) (hcells : cells + 1 ≤ R.cells) (hslots : slots + N ≤ R.slots) (hdg : decode cc pc = .ok (.newarray .boolean, 2))
    (kk : ∀ (q : Nat) (H1 : Heap), va_P D vwCl (ws ++ [(q, .inl (Y 2, N, .inl (fun _ => 0)))]) H1 → va_D A (ws ++ [(q, .inl (Y 2, N, .inl (fun _ => 0)))]) → va_S A H0 H1 locs → W p l e R s m args below meth c H1 locs (cells + 1) (slots + N) Q (F0 m (pc + 2) ls (.ref q :: rest))) : W p l e R s m args below meth c H locs cells slots Q (F0 m pc ls (.int n :: rest)) := by
  subst hn
  refine va_newa (atype := .boolean) (ty := .boolean) hx hb harr rfl hK hP hD hS hA (N' := N) (a0 := (N, .inl (fun _ => 0))) (fun _ => rfl) (nI_pos (by omega)) (nI_clamp (by omega)) (cbN hN rfl) hcells hslots hdg (fun q cA H1 hK1 hP1 hD1 hS1 => ?_)
  obtain rfl : cA = Y 2 := yZ2 hK1
  exact kk q H1 hP1 hD1 hS1
theorem nwJ (hx : p.tables.exec = Jvm.exec) (hb : c.code = cc) (harr : (Cond.arrayClass .long).before args s = true) (hK : va_K D vwCl (tyA Y) s) (hP : va_P D vwCl ws H) (hD : va_D A ws) (hS : va_S A H0 H locs) (hA : ∀ q, H0.size ≤ q → A q) {n : Int32} (N : Nat) (hn : n = nI N) (hN : N < 10000000) (hcells : cells + 1 ≤ R.cells) (hslots : slots + N ≤ R.slots) (hdg : decode cc pc = .ok (.newarray .long, 2))
    (kk : ∀ (q : Nat) (H1 : Heap), va_P D vwCl (ws ++ [(q, .inl (Y 3, N, .inr (.inl (fun _ => 0))))]) H1 → va_D A (ws ++ [(q, .inl (Y 3, N, .inr (.inl (fun _ => 0))))]) → va_S A H0 H1 locs → W p l e R s m args below meth c H1 locs (cells + 1) (slots + N) Q (F0 m (pc + 2) ls (.ref q :: rest))) : W p l e R s m args below meth c H locs cells slots Q (F0 m pc ls (.int n :: rest)) := by
  subst hn
  refine va_newa (atype := .long) (ty := .long) hx hb harr rfl hK hP hD hS hA (N' := N) (a0 := (N, .inr (.inl (fun _ => 0)))) (fun _ => rfl) (nI_pos (by omega)) (nI_clamp (by omega)) (cbN hN rfl) hcells hslots hdg (fun q cA H1 hK1 hP1 hD1 hS1 => ?_)
  obtain rfl : cA = Y 3 := yJ3 hK1
  exact kk q H1 hP1 hD1 hS1
end NW
abbrev rUpd (r : RV) (i v : Int32) : RV := (rA r, rN r, upd (rF r) i.toNatClampNeg v, rZ r)
abbrev rSetZ (r : RV) (k : Nat) : RV := (rA r, rN r, rF r, k)
section RAst
variable {p : Program} {l : Launch} {e : Env} {R : Room} {s : State} {m : MethodId} {args : Array Value} {below : List Frame} {meth : Method} {c : Code} {H H0 : Heap} {locs : List Loc} {cells slots : Nat} {Q : State → Prop} {cc : ByteArray} {pc : Nat} {ls : Array Slot} {rest : List Value} {D : va_G} {Y : Nat → ClassId} {h : Nat} {r : RV} {A : Nat → Prop} {Ts : List Cond}
theorem rAst (hx : p.tables.exec = Jvm.exec) (hb : c.code = cc) (hK : va_K D vwCl (tyA Y) s) (hP : va_P D vwCl (rW Y h r) H) (hD : va_D A (rW Y h r)) (hS : va_S A H0 H locs) {i x : Int32} (hin : vp_in i (rN r)) (hdg : decode cc pc = .ok (.iastore, 1)) (kk : ∀ (H1 : Heap) (locs1 : List Loc), va_P D vwCl (rW Y h (rUpd r i x)) H1 → va_D A (rW Y h (rUpd r i x)) → va_S A H0 H1 locs1 → W p l e R s m args below meth c H1 locs1 cells slots Q (F0 m (pc + 1) ls rest)) : W p l e R s m args below meth c H locs cells slots Q (F0 m pc ls (.int x :: .int i :: .ref (rA r) :: rest)) := va_iast hx hb hK hP hD hS 1 0 rfl rfl hin hdg kk
theorem rPutZ (hx : p.tables.exec = Jvm.exec) (hb : c.code = cc) (hts : ∀ w ∈ Ts, w.before args s = true) (hin : ∀ w ∈ u_ws RX1 TX1 2, w ∈ Ts) (hown : s.vm.findClass RX1 = some m.cls) (hK : va_K D vwCl (tyA Y) s) (hP : va_P D vwCl (rW Y h r) H) (hD : va_D A (rW Y h r)) (hS : va_S A H0 H locs) {index : Nat} (hlink : (Cond.fieldLink RX1 index "ObjectRows$Row" "size" "I").before args s = true) {x : Int32} (k : Nat) (hk : x = nI k) (hdg : decode cc pc = .ok (.putfield index, 3)) (kk : ∀ (H1 : Heap) (locs1 : List Loc), va_P D vwCl (rW Y h (rSetZ r k)) H1 → va_D A (rW Y h (rSetZ r k)) → va_S A H0 H1 locs1 → W p l e R s m args below meth c H1 locs1 cells slots Q (F0 m (pc + 3) ls rest)) : W p l e R s m args below meth c H locs cells slots Q (F0 m pc ls (.int x :: .ref h :: rest)) := by
  subst hk
  exact va_put (D := D) (ci := 2) (v := .int (nI k)) (ty := .int) (C := RX1) (T := TX1) (N := 2) hx hb hts hin tyX1 tyX1_ok nmX1 hown hK hP hD hS 0 rfl rfl 1 (by decide) hlink (fun _ h9 => h9) rfl (by decide +kernel) rfl rfl (Nat.le_of_ble_eq_true rfl) hdg kk
end RAst
