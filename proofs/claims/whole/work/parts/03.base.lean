/-! my own base: one table of array kinds, contracts that only read, their calls -/
abbrev tyA (Y : Nat → ClassId) : List (ClassId × FieldType) := [(Y 0, .int), (Y 1, .byte), (Y 2, .boolean), (Y 3, .long), (Y 4, .object "ObjectRows$Changing")]
def rdPc (D : va_G) (Y : Nat → ClassId) (av : List Value) (wW : va_W) : Array Value → State → Prop := va_Pc av (fun U => va_P D vwCl wW U.heap ∧ va_K D vwCl (tyA Y) U)
theorem rdPc_blind {D : va_G} {Y : Nat → ClassId} {av : List Value} {wW : va_W} : FrameBlind (rdPc D Y av wW) := fun a U g mk q => ⟨q.1, q.2.1, va_K.moved (u := U) (U := U.calling g mk a) (Vm.Alike.refl U.vm) q.2.2⟩
def stPc (av : List Value) : Array Value → State → Prop := va_Pc av (fun _ => True)
theorem stPc_blind {av : List Value} : FrameBlind (stPc av) := fun _ _ _ _ q => q
/-- true and false as the machine has them -/
def bI (b : Bool) : Int32 := if b = true then 1 else 0
theorem bI_t {b : Bool} (h : b = true) : bI b = 1 := by rw [h]; rfl
theorem bI_f {b : Bool} (h : b = false) : bI b = 0 := by rw [h]; rfl
section RdOf
variable {l : Launch} {y : MethodName} {ws ws' : List Cond} {rm : Room} {D : va_G} {Y : Nat → ClassId} {av : List Value} {wW : va_W} {Qc : Array Value → State → Outcome → State → Prop} {mc ms : Nat} {free : Addr → Prop} {cc : ByteArray} {maxL : Nat} {ret : Option FieldType}
theorem rdOf {own : String} (hy : plainName y.cls = true) (hw : ws = Cond.code y cc maxL ret :: ws') (hc : y.cls = own) (hav : (lg_sl av).length ≤ maxL)
    (body : ∀ (p : Program) (e : Env) (s : State) (m : MethodId) (below : List Frame) (meth : Method) (c : Code) (ls : Array Slot), p.tables.exec = Jvm.exec → c.code = cc → meth.sig.returnType = ret → (∀ w ∈ ws, w.before av.toArray s = true) → s.vm.findClass own = some m.cls → c.maxLocals = maxL → meth.locks = false → va_P D vwCl wW s.heap → va_K D vwCl (tyA Y) s → lv_has ls maxL (lv_args 0 av) → W p l e rm s m av.toArray below meth c s.heap [] 0 0 (MQ below Qc av.toArray s mc ms free) (F0 m 0 ls [])) : Met l y ws rm (rdPc D Y av wW) Qc mc ms free := by
  refine Met.ofW (cc := cc) (maxL := maxL) (ret := ret) hy hw ?_
  intro p e s m args below meth c s₁ B hml hv
  obtain ⟨rfl, hP, hK⟩ := hv
  have hown : s.vm.findClass y.cls = some m.cls := findClass_of_methodNamed B.named
  rw [lg_entry_eq]
  exact body p e s m below meth c _ B.exec B.bytes B.returns (atoms_spec (ws := ws) B.pre) (hc ▸ hown) hml B.notSynchronized hP hK (lv_entry av hav)
theorem stOf {own : String} (hy : plainName y.cls = true) (hw : ws = Cond.code y cc maxL ret :: ws') (hc : y.cls = own) (hav : (lg_sl av).length ≤ maxL)
    (body : ∀ (p : Program) (e : Env) (s : State) (m : MethodId) (below : List Frame) (meth : Method) (c : Code) (ls : Array Slot), p.tables.exec = Jvm.exec → c.code = cc → meth.sig.returnType = ret → (∀ w ∈ ws, w.before av.toArray s = true) → s.vm.findClass own = some m.cls → c.maxLocals = maxL → meth.locks = false → lv_has ls maxL (lv_args 0 av) → W p l e rm s m av.toArray below meth c s.heap [] 0 0 (MQ below Qc av.toArray s mc ms free) (F0 m 0 ls [])) : Met l y ws rm (stPc av) Qc mc ms free := by
  refine Met.ofW (cc := cc) (maxL := maxL) (ret := ret) hy hw ?_
  intro p e s m args below meth c s₁ B hml hv
  obtain ⟨rfl, -⟩ := hv
  have hown : s.vm.findClass y.cls = some m.cls := findClass_of_methodNamed B.named
  rw [lg_entry_eq]
  exact body p e s m below meth c _ B.exec B.bytes B.returns (atoms_spec (ws := ws) B.pre) (hc ▸ hown) hml B.notSynchronized (lv_entry av hav)
end RdOf
section RdCall
variable {p : Program} {l : Launch} {e : Env} {R : Room} {s : State} {m : MethodId} {args : Array Value} {below : List Frame} {meth : Method} {c : Code} {H : Heap} {locs : List Loc} {cells slots : Nat} {Q : State → Prop}
variable {y : MethodName} {bytes cc : ByteArray} {maxL nL n index : Nat} {ret : Option FieldType} {ws : List Cond} {rm : Room} {Ts : List Cond} {own C : String} {b : Addr} {As rest st0 : List Value} {pc : Nat} {ls : Array Slot} {D : va_G} {Y : Nat → ClassId} {wW : va_W}
theorem rcI {post : Int32 → Prop} (S : CallFix p m c cc nL s args Ts own) (hM : Met l y ws rm (rdPc D Y (.ref b :: As) wW) (vp_Si post) 0 0 (fun _ => False)) (cw : CallW R s args own C index y bytes maxL ret ws rm 0 0 n) (hP : va_P D vwCl wW H) (hK : va_K D vwCl (tyA Y) s) (q0 ci : Nat) {T : u_T} {N : Nat} {fs : List Value} (he : wW[q0]? = some (b, .inr (ci, fs))) (hc : vwCl[ci]? = some (C, T, N)) (hn : As.length = n) (hsize : ls.size = nL) (hstack : st0 = As.reverse ++ .ref b :: rest) (hW : (rest.map fun v => v.category).sum ≤ 8) (hdg : decode cc pc = .ok (.invokevirtual index, 3)) (hf : cells ≤ R.cells ∧ slots ≤ R.slots)
    (kk : ∀ r : Int32, post r → W p l e R s m args below meth c H locs cells slots Q (F0 m (pc + 3) ls (.int r :: rest))) : W p l e R s m args below meth c H locs cells slots Q (F0 m pc ls st0) :=
  vp_callSi (va_runV (As := As) (rest := rest) S hM cw ⟨rdPc_blind, va_recv hK hP hc he, fun U hU hWm => ⟨rfl, by rw [hU]; exact hP, va_K.moved hWm.alike hK⟩⟩ rfl hn hsize hstack (lv_room hW) hdg hf).run kk
theorem rcL {post : Int64 → Prop} (S : CallFix p m c cc nL s args Ts own) (hM : Met l y ws rm (rdPc D Y (.ref b :: As) wW) (vp_Sl post) 0 0 (fun _ => False)) (cw : CallW R s args own C index y bytes maxL ret ws rm 0 0 n) (hP : va_P D vwCl wW H) (hK : va_K D vwCl (tyA Y) s) (q0 ci : Nat) {T : u_T} {N : Nat} {fs : List Value} (he : wW[q0]? = some (b, .inr (ci, fs))) (hc : vwCl[ci]? = some (C, T, N)) (hn : As.length = n) (hsize : ls.size = nL) (hstack : st0 = As.reverse ++ .ref b :: rest) (hW : (rest.map fun v => v.category).sum ≤ 8) (hdg : decode cc pc = .ok (.invokevirtual index, 3)) (hf : cells ≤ R.cells ∧ slots ≤ R.slots)
    (kk : ∀ r : Int64, post r → W p l e R s m args below meth c H locs cells slots Q (F0 m (pc + 3) ls (.long r :: rest))) : W p l e R s m args below meth c H locs cells slots Q (F0 m pc ls st0) :=
  vp_callSl (va_runV (As := As) (rest := rest) S hM cw ⟨rdPc_blind, va_recv hK hP hc he, fun U hU hWm => ⟨rfl, by rw [hU]; exact hP, va_K.moved hWm.alike hK⟩⟩ rfl hn hsize hstack (lv_room hW) hdg hf).run kk
theorem rcR {post : Nat → Prop} (S : CallFix p m c cc nL s args Ts own) (hM : Met l y ws rm (rdPc D Y (.ref b :: As) wW) (va_Sr post (fun a => Value.ref a)) 0 0 (fun _ => False)) (cw : CallW R s args own C index y bytes maxL ret ws rm 0 0 n) (hP : va_P D vwCl wW H) (hK : va_K D vwCl (tyA Y) s) (q0 ci : Nat) {T : u_T} {N : Nat} {fs : List Value} (he : wW[q0]? = some (b, .inr (ci, fs))) (hc : vwCl[ci]? = some (C, T, N)) (hn : As.length = n) (hsize : ls.size = nL) (hstack : st0 = As.reverse ++ .ref b :: rest) (hW : (rest.map fun v => v.category).sum ≤ 8) (hdg : decode cc pc = .ok (.invokevirtual index, 3)) (hf : cells ≤ R.cells ∧ slots ≤ R.slots)
    (kk : ∀ r : Nat, post r → W p l e R s m args below meth c H locs cells slots Q (F0 m (pc + 3) ls (.ref r :: rest))) : W p l e R s m args below meth c H locs cells slots Q (F0 m pc ls st0) :=
  va_csr (va_runV (As := As) (rest := rest) S hM cw ⟨rdPc_blind, va_recv hK hP hc he, fun U hU hWm => ⟨rfl, by rw [hU]; exact hP, va_K.moved hWm.alike hK⟩⟩ rfl hn hsize hstack (lv_room hW) hdg hf).run kk
theorem scI {post : Int32 → Prop} (S : CallFix p m c cc nL s args Ts own) (hM : Met l y ws rm (stPc As) (vp_Si post) 0 0 (fun _ => False)) (cw : CallB R s args own index y bytes maxL ret ws rm 0 0 n ∧ (Cond.static y).before args s = true) (hn : As.length = n) (hsize : ls.size = nL) (hstack : st0 = As.reverse ++ rest) (hW : (rest.map fun v => v.category).sum ≤ 8) (hdg : decode cc pc = .ok (.invokestatic index, 3)) (hf : cells ≤ R.cells ∧ slots ≤ R.slots)
    (kk : ∀ r : Int32, post r → W p l e R s m args below meth c H locs cells slots Q (F0 m (pc + 3) ls (.int r :: rest))) : W p l e R s m args below meth c H locs cells slots Q (F0 m pc ls st0) :=
  vp_callSi (va_runS (As := As) (rest := rest) S hM cw ⟨stPc_blind, fun U hU hWm => ⟨rfl, trivial⟩⟩ rfl hn hsize hstack (lv_room hW) hdg hf).run kk
theorem scL {post : Int64 → Prop} (S : CallFix p m c cc nL s args Ts own) (hM : Met l y ws rm (stPc As) (vp_Sl post) 0 0 (fun _ => False)) (cw : CallB R s args own index y bytes maxL ret ws rm 0 0 n ∧ (Cond.static y).before args s = true) (hn : As.length = n) (hsize : ls.size = nL) (hstack : st0 = As.reverse ++ rest) (hW : (rest.map fun v => v.category).sum ≤ 8) (hdg : decode cc pc = .ok (.invokestatic index, 3)) (hf : cells ≤ R.cells ∧ slots ≤ R.slots)
    (kk : ∀ r : Int64, post r → W p l e R s m args below meth c H locs cells slots Q (F0 m (pc + 3) ls (.long r :: rest))) : W p l e R s m args below meth c H locs cells slots Q (F0 m pc ls st0) :=
  vp_callSl (va_runS (As := As) (rest := rest) S hM cw ⟨stPc_blind, fun U hU hWm => ⟨rfl, trivial⟩⟩ rfl hn hsize hstack (lv_room hW) hdg hf).run kk
end RdCall
section RdEnd
variable {p : Program} {l : Launch} {e : Env} {R : Room} {s : State} {m : MethodId} {args : Array Value} {below : List Frame} {meth : Method} {c : Code} {cc : ByteArray} {pc : Nat} {ls : Array Slot}
theorem reI {post : Int32 → Prop} {v : Int32} (hx : p.tables.exec = Jvm.exec) (hb : c.code = cc) (hr : meth.sig.returnType = some .int) (hlocks : meth.locks = false) (hd : decode cc pc = .ok (.ireturn, 1)) (h : post v) : W p l e R s m args below meth c s.heap [] 0 0 (MQ below (vp_Si post) args s 0 0 (fun _ => False)) (F0 m pc ls [.int v]) :=
  W.iret hx hb hr (fun _ ht _ => ⟨v, rfl, h, ht⟩) (fun _ h => by cases h) hd hlocks
theorem reZ {post : Int32 → Prop} {v : Int32} (hx : p.tables.exec = Jvm.exec) (hb : c.code = cc) (hr : meth.sig.returnType = some .boolean) (hlocks : meth.locks = false) (hd : decode cc pc = .ok (.ireturn, 1)) (hz : v = 0 ∨ v = 1) (h : post v) : W p l e R s m args below meth c s.heap [] 0 0 (MQ below (vp_Si post) args s 0 0 (fun _ => False)) (F0 m pc ls [.int v]) :=
  W.zret hx hb hr (by rcases hz with rfl | rfl <;> rfl) (fun _ ht _ => ⟨v, rfl, h, ht⟩) (fun _ h => by cases h) hd hlocks
theorem reL {post : Int64 → Prop} {v : Int64} (hx : p.tables.exec = Jvm.exec) (hb : c.code = cc) (hr : meth.sig.returnType = some .long) (hlocks : meth.locks = false) (hd : decode cc pc = .ok (.lreturn, 1)) (h : post v) : W p l e R s m args below meth c s.heap [] 0 0 (MQ below (vp_Sl post) args s 0 0 (fun _ => False)) (F0 m pc ls [.long v]) :=
  W.lret hx hb hr (fun _ ht _ => ⟨v, rfl, h, ht⟩) (fun _ h => by cases h) hd hlocks
theorem reR {post : Nat → Prop} {v : Nat} {C : String} (hx : p.tables.exec = Jvm.exec) (hb : c.code = cc) (hr : meth.sig.returnType = some (.object C)) (hlocks : meth.locks = false) (hd : decode cc pc = .ok (.areturn, 1)) (h : post v) : W p l e R s m args below meth c s.heap [] 0 0 (MQ below (va_Sr post (fun a => Value.ref a)) args s 0 0 (fun _ => False)) (F0 m pc ls [.ref v]) :=
  W.aret hx hb hr (Or.inl ⟨_, rfl⟩) (Or.inr ⟨v, rfl⟩) (fun _ ht _ => ⟨v, rfl, h, ht⟩) (fun _ h => by cases h) hd hlocks
end RdEnd
/-! a row of the class: the address of its cells, how many there are, what they hold, the size -/
abbrev RV : Type := Nat × Nat × (Nat → Int32) × Nat
abbrev rA (r : RV) : Nat := r.1
abbrev rN (r : RV) : Nat := r.2.1
abbrev rF (r : RV) : Nat → Int32 := r.2.2.1
abbrev rZ (r : RV) : Nat := r.2.2.2
abbrev rW (Y : Nat → ClassId) (h : Nat) (r : RV) : va_W := [(h, .inr (2, [.ref (rA r), .int (nI (rZ r))])), (rA r, .inl (Y 0, rN r, .inl (rF r)))]
/-- what lies behind the cells is 0; the size fits -/
def rOK (r : RV) : Prop := rN r < 1000000 ∧ (∀ j, rN r ≤ j → rF r j = 0) ∧ rZ r ≤ rN r
/-- reading at any place -/
def rd (f : Nat → Int32) (i : Int32) : Int32 := if i < 0 then 0 else f i.toNatClampNeg
/-! the whole object: the addresses (its own, now's, kept's, the rows'); the rows, count, saves, storage -/
abbrev OA : Type := (Nat × Nat × Nat) × (Nat → Nat)
abbrev OS : Type := (Nat → RV) × (Int32 × Int32 × Int32)
abbrev oO (ad : OA) : Nat := ad.1.1
abbrev oNow (ad : OA) : Nat := ad.1.2.1
abbrev oKp (ad : OA) : Nat := ad.1.2.2
abbrev oH (ad : OA) (k : Nat) : Nat := ad.2 k
abbrev oR (t : OS) (k : Nat) : RV := t.1 k
abbrev oCnt (t : OS) : Int32 := t.2.1
abbrev oSv (t : OS) : Int32 := t.2.2.1
abbrev oSto (t : OS) : Int32 := t.2.2.2
abbrev oW (Y : Nat → ClassId) (ad : OA) (t : OS) : va_W := [(oO ad, .inr (3, [.ref (oH ad 0), .ref (oH ad 1), .ref (oH ad 2), .ref (oH ad 3), .ref (oH ad 4), .ref (oH ad 5), .ref (oNow ad), .ref (oKp ad), .int (oCnt t), .int (oSv t)])), (oNow ad, .inr (1, [.ref (oH ad 6), .ref (oH ad 7), .ref (oH ad 8), .ref (oH ad 9), .ref (oH ad 10), .ref (oH ad 11), .int (oSto t)])),
  (oH ad 0, .inr (2, [.ref (rA (oR t 0)), .int (nI (rZ (oR t 0)))])), (rA (oR t 0), .inl (Y 0, rN (oR t 0), .inl (rF (oR t 0)))), (oH ad 1, .inr (2, [.ref (rA (oR t 1)), .int (nI (rZ (oR t 1)))])), (rA (oR t 1), .inl (Y 0, rN (oR t 1), .inl (rF (oR t 1)))), (oH ad 2, .inr (2, [.ref (rA (oR t 2)), .int (nI (rZ (oR t 2)))])), (rA (oR t 2), .inl (Y 0, rN (oR t 2), .inl (rF (oR t 2)))),
  (oH ad 3, .inr (2, [.ref (rA (oR t 3)), .int (nI (rZ (oR t 3)))])), (rA (oR t 3), .inl (Y 0, rN (oR t 3), .inl (rF (oR t 3)))), (oH ad 4, .inr (2, [.ref (rA (oR t 4)), .int (nI (rZ (oR t 4)))])), (rA (oR t 4), .inl (Y 0, rN (oR t 4), .inl (rF (oR t 4)))), (oH ad 5, .inr (2, [.ref (rA (oR t 5)), .int (nI (rZ (oR t 5)))])), (rA (oR t 5), .inl (Y 0, rN (oR t 5), .inl (rF (oR t 5)))),
  (oH ad 6, .inr (2, [.ref (rA (oR t 6)), .int (nI (rZ (oR t 6)))])), (rA (oR t 6), .inl (Y 0, rN (oR t 6), .inl (rF (oR t 6)))), (oH ad 7, .inr (2, [.ref (rA (oR t 7)), .int (nI (rZ (oR t 7)))])), (rA (oR t 7), .inl (Y 0, rN (oR t 7), .inl (rF (oR t 7)))), (oH ad 8, .inr (2, [.ref (rA (oR t 8)), .int (nI (rZ (oR t 8)))])), (rA (oR t 8), .inl (Y 0, rN (oR t 8), .inl (rF (oR t 8)))),
  (oH ad 9, .inr (2, [.ref (rA (oR t 9)), .int (nI (rZ (oR t 9)))])), (rA (oR t 9), .inl (Y 0, rN (oR t 9), .inl (rF (oR t 9)))), (oH ad 10, .inr (2, [.ref (rA (oR t 10)), .int (nI (rZ (oR t 10)))])), (rA (oR t 10), .inl (Y 0, rN (oR t 10), .inl (rF (oR t 10)))), (oH ad 11, .inr (2, [.ref (rA (oR t 11)), .int (nI (rZ (oR t 11)))])), (rA (oR t 11), .inl (Y 0, rN (oR t 11), .inl (rF (oR t 11))))]
def oOK (t : OS) : Prop := ∀ k, k < 12 → rOK (oR t k)
theorem oWr0 {D : va_G} {Y : Nat → ClassId} {ad : OA} {t : OS} {H : Heap} (hP : va_P D vwCl (oW Y ad t) H) : va_P D vwCl (rW Y (oH ad 0) (oR t 0)) H := hP.sub [2, 3] rfl
theorem oWr1 {D : va_G} {Y : Nat → ClassId} {ad : OA} {t : OS} {H : Heap} (hP : va_P D vwCl (oW Y ad t) H) : va_P D vwCl (rW Y (oH ad 1) (oR t 1)) H := hP.sub [4, 5] rfl
theorem oWr2 {D : va_G} {Y : Nat → ClassId} {ad : OA} {t : OS} {H : Heap} (hP : va_P D vwCl (oW Y ad t) H) : va_P D vwCl (rW Y (oH ad 2) (oR t 2)) H := hP.sub [6, 7] rfl
theorem oWr3 {D : va_G} {Y : Nat → ClassId} {ad : OA} {t : OS} {H : Heap} (hP : va_P D vwCl (oW Y ad t) H) : va_P D vwCl (rW Y (oH ad 3) (oR t 3)) H := hP.sub [8, 9] rfl
theorem oWr4 {D : va_G} {Y : Nat → ClassId} {ad : OA} {t : OS} {H : Heap} (hP : va_P D vwCl (oW Y ad t) H) : va_P D vwCl (rW Y (oH ad 4) (oR t 4)) H := hP.sub [10, 11] rfl
theorem oWr5 {D : va_G} {Y : Nat → ClassId} {ad : OA} {t : OS} {H : Heap} (hP : va_P D vwCl (oW Y ad t) H) : va_P D vwCl (rW Y (oH ad 5) (oR t 5)) H := hP.sub [12, 13] rfl
theorem oWr6 {D : va_G} {Y : Nat → ClassId} {ad : OA} {t : OS} {H : Heap} (hP : va_P D vwCl (oW Y ad t) H) : va_P D vwCl (rW Y (oH ad 6) (oR t 6)) H := hP.sub [14, 15] rfl
theorem oWr7 {D : va_G} {Y : Nat → ClassId} {ad : OA} {t : OS} {H : Heap} (hP : va_P D vwCl (oW Y ad t) H) : va_P D vwCl (rW Y (oH ad 7) (oR t 7)) H := hP.sub [16, 17] rfl
theorem oWr8 {D : va_G} {Y : Nat → ClassId} {ad : OA} {t : OS} {H : Heap} (hP : va_P D vwCl (oW Y ad t) H) : va_P D vwCl (rW Y (oH ad 8) (oR t 8)) H := hP.sub [18, 19] rfl
theorem oWr9 {D : va_G} {Y : Nat → ClassId} {ad : OA} {t : OS} {H : Heap} (hP : va_P D vwCl (oW Y ad t) H) : va_P D vwCl (rW Y (oH ad 9) (oR t 9)) H := hP.sub [20, 21] rfl
theorem oWr10 {D : va_G} {Y : Nat → ClassId} {ad : OA} {t : OS} {H : Heap} (hP : va_P D vwCl (oW Y ad t) H) : va_P D vwCl (rW Y (oH ad 10) (oR t 10)) H := hP.sub [22, 23] rfl
theorem oWr11 {D : va_G} {Y : Nat → ClassId} {ad : OA} {t : OS} {H : Heap} (hP : va_P D vwCl (oW Y ad t) H) : va_P D vwCl (rW Y (oH ad 11) (oR t 11)) H := hP.sub [24, 25] rfl
section TblD
variable {p : Program} {l : Launch} {e : Env} {R : Room} {s : State} {m : MethodId} {args : Array Value} {below : List Frame} {meth : Method} {c : Code} {H : Heap} {locs : List Loc} {cells slots : Nat} {Q : State → Prop} {cc : ByteArray} {pc : Nat} {ls : Array Slot} {rest : List Value}
theorem tblD {x : Int32} {lo hi dflt : Int} {offs : Array Int} {ks : List Int} (hall : ∀ j, j < offs.size → offs[j]? = some dflt ∨ (lo + (j : Int)) ∈ ks) (h : ∀ k ∈ ks, x.toInt ≠ k) (hsz : hi + 1 = lo + (offs.size : Int)) : (x.toInt < lo ∨ hi < x.toInt) ∨ (¬ x.toInt < lo ∧ ¬ hi < x.toInt ∧ offs[(x.toInt - lo).toNat]? = some dflt) := by
  by_cases h1 : x.toInt < lo
  · exact Or.inl (Or.inl h1)
  · by_cases h2 : hi < x.toInt
    · exact Or.inl (Or.inr h2)
    · refine Or.inr ⟨h1, h2, ?_⟩
      rcases hall (x.toInt - lo).toNat (by omega) with q | q
      · exact q
      · exact absurd (by omega) (h _ q)
theorem lv_tableD (hexec : p.tables.exec = Jvm.exec) (hb : c.code = cc) {dflt lo hi : Int} {offs : Array Int} {len : Nat} {x : Int32} {tgt : Nat} (hdg : decode cc pc = .ok (.tableswitch dflt lo hi offs, len)) (h : (x.toInt < lo ∨ hi < x.toInt) ∨ (¬ x.toInt < lo ∧ ¬ hi < x.toInt ∧ offs[(x.toInt - lo).toNat]? = some dflt)) (ht : (pc : Int) + dflt = (tgt : Int))
    (k : W p l e R s m args below meth c H locs cells slots Q (F0 m tgt ls rest)) : W p l e R s m args below meth c H locs cells slots Q (F0 m pc ls (.int x :: rest)) := by
  rcases h with h | ⟨h1, h2, h3⟩
  · exact lv_tableOut hexec hb hdg h ht k
  · exact lv_tableIn hexec hb hdg h1 h2 h3 ht k
end TblD
