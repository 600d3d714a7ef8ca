/-! ObjectRows.get throws: its words again, those of the statics' cell apart -/
def lsU : Cond := .laysStatic Bundle.tN "UNASSIGNED_STACK" Bundle.steD
def lsS : Cond := .laysStatic Bundle.tN "SUPPRESSED_SENTINEL" Bundle.listD
def tAt : List Cond := (Bundle.throwableAtoms.eraseIdx 22).eraseIdx 20
theorem tAt_all : ∀ a ∈ Bundle.throwableAtoms, a ∈ tAt ∨ a = lsU ∨ a = lsS := by decide +kernel
def ownR : List Cond := [.methodLink RX2 111 (Bundle.initS RJx00060), .instantiable RJx00060 6, .castable RJx00060 RJx00060, .selects RJx00060 Bundle.tFill0 Bundle.tFill0, .selects RJx00060 Bundle.tFill Bundle.tFill,
  .lays RJx00060 Bundle.tN "cause" "Ljava/lang/Throwable;", .lays RJx00060 Bundle.tN "stackTrace" Bundle.steD, .lays RJx00060 Bundle.tN "suppressedExceptions" Bundle.listD, .lays RJx00060 Bundle.tN "detailMessage" "Ljava/lang/String;",
  .fieldLink Bundle.tN 198 Bundle.tN "backtrace" "Ljava/lang/Object;", .lays Bundle.tN Bundle.tN "backtrace" "Ljava/lang/Object;", .lays RJx00060 Bundle.tN "backtrace" "Ljava/lang/Object;"]
def ownTab2 : List Cond := tAt ++ Bundle.throwableSAtoms ++ Bundle.chainSAtoms RJx00060 gNames ++ ownR
theorem own_good2 : ∀ w ∈ ownTab2, (w.onTables && w.keepsFace) = true := by decide +kernel
theorem wordF {args a' : Array Value} {s U : State} (hW : s.WarmedH U.vm) {c : Cond} (hc : (c.onTables && c.keepsFace) = true) (h : c.before args s = true) : c.before a' U = true := by
  rw [Bool.and_eq_true] at hc
  have h1 : c.before args (s.setVm U.vm) = true := Cond.before_shiftedFace (State.Shifted.of_warmed hW) c hc.2 h
  have h2 := Cond.onTables_vm (A := args) (A' := a') (U := s) (U' := U) U.vm c hc.1
  rw [State.setVm_self] at h2
  rw [← h2]; exact h1
theorem ls_heap {V U : State} (hv : U.vm = V.vm) (hh : statS V.heap U.heap) {A A' : Array Value} {cls n d : String} (h : (Cond.laysStatic cls n d).before A V = true) : (Cond.laysStatic cls n d).before A' U = true := by
  have hf : U.fieldFound? cls n d = V.fieldFound? cls n d := by simp only [State.fieldFound?, hv]
  simp only [Cond.before, Cond.holds, Cond.value] at h ⊢
  rw [hf, hv]
  cases h1 : V.vm.findClass cls with
  | none => simp [h1] at h
  | some c0 =>
    cases h2 : V.fieldFound? cls n d with
    | none => simp [h1, h2] at h
    | some q =>
      obtain ⟨c', k, ix, fd⟩ := q
      cases h3 : k.statics with
      | none => simp [h1, h2, h3] at h
      | some aS =>
        cases h4 : V.heap[aS]? with
        | none => simp [h1, h2, h3, h4] at h
        | some cell =>
          by_cases h5 : cell.vm.isStatics = true
          · have h6 := hh aS cell h4 h5
            simp [h1, h2, h3, h4] at h
            simp [h3, h6, h]
          · simp [h1, h2, h3, h4, h5] at h
theorem ls_warm {s U : State} (hW : s.WarmedH U.vm) (hh : statS s.heap U.heap) {A A' : Array Value} {cls n d : String} (h : (Cond.laysStatic cls n d).before A s = true) : (Cond.laysStatic cls n d).before A' U = true := by
  have h1 : (Cond.laysStatic cls n d).before A (s.setVm U.vm) = true := Cond.before_shiftedFace (State.Shifted.of_warmed hW) _ rfl h
  exact ls_heap (V := s.setVm U.vm) (U := U) rfl hh h1
def thrS2 (U : State) : Prop := thrS U ∧ lsU.before #[] U = true ∧ lsS.before #[] U = true
theorem thrS2.warm {s U : State} (hW : s.WarmedH U.vm) (hh : statS s.heap U.heap) (h : thrS2 s) : thrS2 U := ⟨h.1.warm hW hh, ls_warm hW hh h.2.1, ls_warm hW hh h.2.2⟩
theorem thrS2.same {s U : State} (hv : U.vm = s.vm) (hh : U.heap = s.heap) (h : thrS2 s) : thrS2 U := ⟨h.1.same hv hh, ls_heap hv (fun q c hq _ => by rw [hh]; exact hq) h.2.1, ls_heap hv (fun q c hq _ => by rw [hh]; exact hq) h.2.2⟩
theorem own_all2 {args : Array Value} {s : State} (hts : ∀ w ∈ ownTab2, w.before args s = true) (h : thrS2 s) : ∀ a ∈ Bundle.ownAtoms RX2 111 RJx00060 gNames, a.before args s = true := by
  have h1 : lsU.before args s = true := ls_heap rfl (fun q c hq _ => hq) h.2.1
  have h2 : lsS.before args s = true := ls_heap rfl (fun q c hq _ => hq) h.2.2
  refine own_all (fun w hw => ?_) h.1
  rcases List.mem_append.mp hw with hw | hw
  · rcases List.mem_append.mp hw with hw | hw
    · rcases List.mem_append.mp hw with hw | hw
      · rcases tAt_all w hw with q | q | q
        · exact hts w (List.mem_append_left _ (List.mem_append_left _ (List.mem_append_left _ q)))
        · rw [q]; exact h1
        · rw [q]; exact h2
      · exact hts w (List.mem_append_left _ (List.mem_append_left _ (List.mem_append_right _ hw)))
    · exact hts w (List.mem_append_left _ (List.mem_append_right _ hw))
  · exact hts w (List.mem_append_right _ hw)
def wsX2_getT2 : List Cond := .code yX2_get cX2_get 3 (some .int) :: (((wsX2_get_r1 ++ (wsX2_get_r2 ++ wsX2_get_r3)) ++ wsX20 ++ wsJx000600 ++ wsX10 ++ wsX00) ++ ownTab2)
def thrPc2 (D : va_G) (Y : Nat → ClassId) (av : List Value) (wW : va_W) : Array Value → State → Prop := va_Pc av (fun U => va_P D vwCl wW U.heap ∧ va_K D vwCl (tyA Y) U ∧ thrS2 U)
theorem thrPc2_blind {D : va_G} {Y : Nat → ClassId} {av : List Value} {wW : va_W} : FrameBlind (thrPc2 D Y av wW) := fun a U g mk q => ⟨q.1, q.2.1, va_K.moved (u := U) (U := U.calling g mk a) (Vm.Alike.refl U.vm) q.2.2.1, thrS2.same (s := U) (U := U.calling g mk a) rfl rfl q.2.2.2⟩
set_option maxHeartbeats 4000000 in
set_option maxRecDepth 100000 in
theorem c_X2_getT2 (l : Launch) (hfl : l.flags = pinnedFlags ++ [noTraceFlag]) (D : va_G) (Y : Nat → ClassId) (ad : OA) (t : OS) (x i : Int32) (hok : oOK t) (hT : pGetT t x i = true) : MetT l yX2_get wsX2_getT2 ({ frames := 8, cells := 1, slots := 6, locals := 110 }) (thrPc2 D Y [.ref (oO ad), .int x, .int i] (oW Y ad t)) thrQ 1 6 (fun _ => False) := by
  refine MetT_ofW (cc := cX2_get) (maxL := 3) (ret := some .int) (by decide) rfl ?_
  intro p e s m args below meth c s₁ B hml hv
  obtain ⟨rfl, hP, hK, hthr⟩ := hv
  have hown : s.vm.findClass RX2 = some m.cls := findClass_of_methodNamed B.named
  have hall := atoms_spec (ws := wsX2_getT2) B.pre
  have hts : ∀ w ∈ wsX2_get, w.before [Value.ref (oO ad), .int x, .int i].toArray s = true := fun w hw => hall w (by
    rcases List.mem_cons.mp hw with h | h
    · rw [h]; exact List.mem_cons_self
    · exact List.mem_cons_of_mem _ (List.mem_append_left _ h))
  have htt : ∀ w ∈ ownTab2, w.before [Value.ref (oO ad), .int x, .int i].toArray s = true := fun w hw => hall w (List.mem_cons_of_mem _ (List.mem_append_right _ hw))
  have hx := B.exec
  have hb := B.bytes
  have hlocks := B.notSynchronized
  have hemp := B.noHandlers (hts (.code yX2_get cX2_get 3 (some .int)) List.mem_cons_self)
  obtain ⟨q, hq⟩ := hthr.1.2.2
  rw [lg_entry_eq]
  have hl := lv_entry (n := 3) [Value.ref (oO ad), .int x, .int i] (Nat.le_of_ble_eq_true rfl)
  have hl : lv_has _ 3 [(0, .ref (oO ad)), (1, .int x), (2, .int i)] := hl
  refine w_get hx hb hts hown hml hP hK hl hok (Nat.le_of_ble_eq_true rfl) (Nat.le_of_ble_eq_true rfl) ⟨Nat.zero_le _, Nat.zero_le _⟩ (fun pc v hd hf _ => ?_) (fun _ => ?_)
  · rw [hT] at hf; cases hf
  refine W.newc hx hb hown (hts (.classLink RX2 107 RJx00060) (by decide +kernel)) (hts (.instantiable RJx00060 6) (by decide +kernel)) (hts (.initialized RJx00060) (by decide +kernel)) rfl dX2_get_45 (Nat.le_of_ble_eq_true rfl) (Nat.le_of_ble_eq_true rfl) (fun cC kC hfc hkC hord hsz => ?_)
  refine lv_dup hx hb dX2_get_48 rfl ?_
  refine va_ldcS hx hb hown hq dX2_get_49 ?_
  intro T hTh X
  have htr := Launch.traces_off hfl X.admits
  have hcell : T.heap[s.heap.size]? = some (freshCell cC kC) := by rw [hTh]; exact Array.getElem?_push_size
  obtain ⟨U, st, hrun, hend, hwarm, hsame, ce, hce, hoc⟩ := X.ctorThrowS hx htr (own := RX2) (cls := RJx00060) (names := gNames) (ic := 111) hown (by decide +kernel) (by decide +kernel) (own_all2 htt hthr) (fun _ h => by cases h) hfc hkC hcell (Nat.le_refl _) (msg := .ref q) rfl (g := F0 m 51 _ [.ref q, .ref s.heap.size, .ref s.heap.size]) rfl (hl.1.trans hml.symm) rfl rfl (rest := []) rfl (by rw [hb]; exact dX2_get_51) (by rw [hb]; exact dX2_get_54) (fun y hy => by
      have h0 : c.exceptionTable.size = 0 := by simpa [Array.isEmpty] using hemp
      have h1 : c.exceptionTable.toList = [] := List.eq_nil_of_length_eq_zero (by simpa using h0)
      rw [h1] at hy; cases hy) (Nat.le_of_ble_eq_true rfl) (Nat.le_of_ble_eq_true rfl) hlocks
  refine ⟨U, st, .threw s.heap.size, hrun, hend, ⟨⟨s.heap.size, ce, rfl, hce, (fun k hk => by rw [hoc.vm] at hk; cases hk), hoc.cls, hoc.self⟩, hsame.2.1, fun q' cell h => same_cells hsame h⟩, [], ⟨⟨_, rfl⟩, hwarm, hsame⟩, fun _ h => by cases h⟩
