/-! ObjectRows.get throws -/
def statS (H H' : Heap) : Prop := ∀ (q : Nat) (cell : Cell), H[q]? = some cell → cell.vm.isStatics = true → H'[q]? = some cell
theorem static_heap {V U : State} (hv : U.vm = V.vm) (hh : statS V.heap U.heap) {A A' : Array Value} {cls n d : String} (h : (Cond.isRef (.static cls n d)).before A V = true) : (Cond.isRef (.static cls n d)).before A' U = true := by
  have hf : U.fieldNamed? cls n d true = V.fieldNamed? cls n d true := by simp only [State.fieldNamed?, State.fieldFound?, hv]
  simp only [Cond.before, Cond.holds, Cond.value, Term.eval] at h ⊢
  rw [hf]
  cases h1 : V.fieldNamed? cls n d true with
  | none => simp [h1] at h
  | some q =>
    obtain ⟨c, k, sl⟩ := q
    cases h2 : k.statics with
    | none => simp [h1, h2] at h
    | some aS =>
      cases h3 : V.heap[aS]? with
      | none => simp [h1, h2, h3] at h
      | some cell =>
        by_cases h4 : cell.vm.isStatics = true
        · have h5 := hh aS cell h3 h4
          simp [h1, h2, h3, h4] at h
          simp [h2, h5, h4, h]
        · simp [h1, h2, h3, h4] at h
theorem static_warm {s U : State} (hW : s.WarmedH U.vm) (hh : statS s.heap U.heap) {A A' : Array Value} {cls n d : String} (h : (Cond.isRef (.static cls n d)).before A s = true) : (Cond.isRef (.static cls n d)).before A' U = true := by
  have h1 : (Cond.isRef (.static cls n d)).before A (s.setVm U.vm) = true := Cond.before_shiftedFace (State.Shifted.of_warmed hW) _ rfl h
  exact static_heap (V := s.setVm U.vm) (U := U) rfl hh h1
def wUn : Cond := .isRef (.static Bundle.tN "UNASSIGNED_STACK" Bundle.steD)
def wSe : Cond := .isRef (.static Bundle.tN "SUPPRESSED_SENTINEL" Bundle.listD)
/-- what a throw wants of the state beside the tables -/
def thrS (U : State) : Prop := wUn.before #[] U = true ∧ wSe.before #[] U = true ∧ ∃ q, vk_R RX2 109 "no such element" q U
theorem thrS.warm {s U : State} (hW : s.WarmedH U.vm) (hh : statS s.heap U.heap) (h : thrS s) : thrS U := ⟨static_warm hW hh h.1, static_warm hW hh h.2.1, h.2.2.elim fun q hq => ⟨q, vk_R.warm hW hq⟩⟩
theorem thrS.same {s U : State} (hv : U.vm = s.vm) (hh : U.heap = s.heap) (h : thrS s) : thrS U := ⟨static_heap hv (fun q c hq _ => by rw [hh]; exact hq) h.1, static_heap hv (fun q c hq _ => by rw [hh]; exact hq) h.2.1, h.2.2.elim fun q hq => ⟨q, vk_R.same hv hq⟩⟩
def gNames : List String := ["java/lang/IndexOutOfBoundsException", "java/lang/RuntimeException", "java/lang/Exception"]
def ownTab : List Cond := Bundle.throwableAtoms ++ Bundle.throwableSAtoms ++ Bundle.chainSAtoms RJx00060 gNames ++ [.methodLink RX2 111 (Bundle.initS RJx00060), .instantiable RJx00060 6, .castable RJx00060 RJx00060, .selects RJx00060 Bundle.tFill0 Bundle.tFill0, .selects RJx00060 Bundle.tFill Bundle.tFill,
  .lays RJx00060 Bundle.tN "cause" "Ljava/lang/Throwable;", .lays RJx00060 Bundle.tN "stackTrace" Bundle.steD, .lays RJx00060 Bundle.tN "suppressedExceptions" Bundle.listD, .lays RJx00060 Bundle.tN "detailMessage" "Ljava/lang/String;",
  .fieldLink Bundle.tN 198 Bundle.tN "backtrace" "Ljava/lang/Object;", .lays Bundle.tN Bundle.tN "backtrace" "Ljava/lang/Object;", .lays RJx00060 Bundle.tN "backtrace" "Ljava/lang/Object;"]
theorem own_all {args : Array Value} {s : State} (hts : ∀ w ∈ ownTab, w.before args s = true) (h : thrS s) : ∀ a ∈ Bundle.ownAtoms RX2 111 RJx00060 gNames, a.before args s = true := by
  have h1 : wUn.before args s = true := h.1
  have h2 : wSe.before args s = true := h.2.1
  have hR : ∀ w ∈ ([.methodLink RX2 111 (Bundle.initS RJx00060), .instantiable RJx00060 6, .castable RJx00060 RJx00060, .selects RJx00060 Bundle.tFill0 Bundle.tFill0, .selects RJx00060 Bundle.tFill Bundle.tFill,
  .lays RJx00060 Bundle.tN "cause" "Ljava/lang/Throwable;", .lays RJx00060 Bundle.tN "stackTrace" Bundle.steD, .lays RJx00060 Bundle.tN "suppressedExceptions" Bundle.listD, .lays RJx00060 Bundle.tN "detailMessage" "Ljava/lang/String;",
  .fieldLink Bundle.tN 198 Bundle.tN "backtrace" "Ljava/lang/Object;", .lays Bundle.tN Bundle.tN "backtrace" "Ljava/lang/Object;", .lays RJx00060 Bundle.tN "backtrace" "Ljava/lang/Object;"] : List Cond), w.before args s = true := fun w hw => hts w (List.mem_append_right _ hw)
  intro a ha
  rcases List.mem_append.mp ha with ha | ha
  · exact hts a (List.mem_append_left _ ha)
  · simp only [List.mem_cons, List.not_mem_nil, or_false] at ha
    rcases ha with rfl | rfl | rfl | rfl | rfl | rfl | rfl | rfl | rfl | rfl | rfl | rfl | rfl | rfl
    · exact hR _ (by simp)
    · exact hR _ (by simp)
    · exact hR _ (by simp)
    · exact hR _ (by simp)
    · exact hR _ (by simp)
    · exact hR _ (by simp)
    · exact hR _ (by simp)
    · exact hR _ (by simp)
    · exact hR _ (by simp)
    · exact h1
    · exact h2
    · exact hR _ (by simp)
    · exact hR _ (by simp)
    · exact hR _ (by simp)
def wsX2_getT : List Cond := .code yX2_get cX2_get 3 (some .int) :: (((wsX2_get_r1 ++ (wsX2_get_r2 ++ wsX2_get_r3)) ++ wsX20 ++ wsJx000600 ++ wsX10 ++ wsX00) ++ ownTab)
/-- the exception that was made lies in the heap; all that was there is as it was -/
def thrQ : Array Value → State → Outcome → State → Prop := fun _ st o t => (∃ (a : Nat) (ce : Cell), o = .threw a ∧ t.heap[a]? = some ce ∧ (∀ k, ce.vm ≠ .statics k) ∧ st.vm.findClass RJx00060 = some ce.cls ∧ st.vm.assignable ce.cls ce.cls = true) ∧ st.heap.size ≤ t.heap.size ∧ ∀ (q : Nat) (cell : Cell), st.heap[q]? = some cell → t.heap[q]? = some cell
def thrPc (D : va_G) (Y : Nat → ClassId) (av : List Value) (wW : va_W) : Array Value → State → Prop := va_Pc av (fun U => va_P D vwCl wW U.heap ∧ va_K D vwCl (tyA Y) U ∧ thrS U)
theorem thrPc_blind {D : va_G} {Y : Nat → ClassId} {av : List Value} {wW : va_W} : FrameBlind (thrPc D Y av wW) := fun a U g mk q => ⟨q.1, q.2.1, va_K.moved (u := U) (U := U.calling g mk a) (Vm.Alike.refl U.vm) q.2.2.1, thrS.same (s := U) (U := U.calling g mk a) rfl rfl q.2.2.2⟩
theorem same_cells {s t : State} {k n : Nat} (h : s.sameButNew t [] k n) {q : Nat} {cell : Cell} (hq : s.heap[q]? = some cell) : t.heap[q]? = some cell := by
  obtain ⟨c', h1, h2, h3, h4⟩ := h.2.2.2.2.2 q cell hq
  have h5 : c'.slots = cell.slots := Array.ext_getElem? (fun i => h4 i (by simp))
  rw [h1, h2, h5]
set_option maxHeartbeats 4000000 in
set_option maxRecDepth 100000 in
theorem c_X2_getT (l : Launch) (hfl : l.flags = pinnedFlags ++ [noTraceFlag]) (D : va_G) (Y : Nat → ClassId) (ad : OA) (t : OS) (x i : Int32) (hok : oOK t) (hT : pGetT t x i = true) : MetT l yX2_get wsX2_getT ({ frames := 8, cells := 1, slots := 6, locals := 110 }) (thrPc D Y [.ref (oO ad), .int x, .int i] (oW Y ad t)) thrQ 1 6 (fun _ => False) := by
  refine MetT_ofW (cc := cX2_get) (maxL := 3) (ret := some .int) (by decide) rfl ?_
  intro p e s m args below meth c s₁ B hml hv
  obtain ⟨rfl, hP, hK, hthr⟩ := hv
  have hown : s.vm.findClass RX2 = some m.cls := findClass_of_methodNamed B.named
  have hall := atoms_spec (ws := wsX2_getT) B.pre
  have hts : ∀ w ∈ wsX2_get, w.before [Value.ref (oO ad), .int x, .int i].toArray s = true := fun w hw => hall w (by
    rcases List.mem_cons.mp hw with h | h
    · rw [h]; exact List.mem_cons_self
    · exact List.mem_cons_of_mem _ (List.mem_append_left _ h))
  have htt : ∀ w ∈ ownTab, w.before [Value.ref (oO ad), .int x, .int i].toArray s = true := fun w hw => hall w (List.mem_cons_of_mem _ (List.mem_append_right _ hw))
  have hx := B.exec
  have hb := B.bytes
  have hlocks := B.notSynchronized
  have hemp := B.noHandlers (hts (.code yX2_get cX2_get 3 (some .int)) List.mem_cons_self)
  obtain ⟨q, hq⟩ := hthr.2.2
  rw [lg_entry_eq]
  have hl := lv_entry (n := 3) [Value.ref (oO ad), .int x, .int i] (Nat.le_of_ble_eq_true rfl)
  have hl : lv_has _ 3 [(0, .ref (oO ad)), (1, .int x), (2, .int i)] := hl
  refine w_get hx hb hts hown hml hP hK hl hok (Nat.le_of_ble_eq_true rfl) (Nat.le_of_ble_eq_true rfl) ⟨Nat.zero_le _, Nat.zero_le _⟩ (fun pc v hd hf _ => ?_) (fun _ => ?_)
  · rw [hT] at hf; cases hf
  refine W.newc hx hb hown (hts (.classLink RX2 107 RJx00060) (by decide +kernel)) (hts (.instantiable RJx00060 6) (by decide +kernel)) (hts (.initialized RJx00060) (by decide +kernel)) rfl dX2_get_45 (Nat.le_of_ble_eq_true rfl) (Nat.le_of_ble_eq_true rfl) (fun cC kC hfc hkC hord hsz => ?_)
  refine lv_dup hx hb dX2_get_48 rfl ?_
  refine va_ldcS hx hb hown hq dX2_get_49 ?_
  intro T hTh X
  have htr := Launch.traces_off hfl X.admits
  have hcell : T.heap[s.heap.size]? = some (freshCell cC kC) := by rw [hTh]; exact Array.getElem?_push_size
  obtain ⟨U, st, hrun, hend, hwarm, hsame, ce, hce, hoc⟩ := X.ctorThrowS hx htr (own := RX2) (cls := RJx00060) (names := gNames) (ic := 111) hown (by decide +kernel) (by decide +kernel) (own_all htt hthr) (fun _ h => by cases h) hfc hkC hcell (Nat.le_refl _) (msg := .ref q) rfl (g := F0 m 51 _ [.ref q, .ref s.heap.size, .ref s.heap.size]) rfl (hl.1.trans hml.symm) rfl rfl (rest := []) rfl (by rw [hb]; exact dX2_get_51) (by rw [hb]; exact dX2_get_54) (fun y hy => by
      have h0 : c.exceptionTable.size = 0 := by simpa [Array.isEmpty] using hemp
      have h1 : c.exceptionTable.toList = [] := List.eq_nil_of_length_eq_zero (by simpa using h0)
      rw [h1] at hy; cases hy) (Nat.le_of_ble_eq_true rfl) (Nat.le_of_ble_eq_true rfl) hlocks
  refine ⟨U, st, .threw s.heap.size, hrun, hend, ⟨⟨s.heap.size, ce, rfl, hce, (fun k hk => by rw [hoc.vm] at hk; cases hk), hoc.cls, hoc.self⟩, hsame.2.1, fun q' cell h => same_cells hsame h⟩, [], ⟨⟨_, rfl⟩, hwarm, hsame⟩, fun _ h => by cases h⟩
