/-! the law's own get -/
abbrev lW (Y : Nat → ClassId) (ou : Nat) (f : Nat → Int64) : va_W := [(ou, .inl (Y 3, 1, .inr (.inl f)))]
def wsL_getT : List Cond := .codeWith yL_get cL_get 5 (some .int) [(0, 10, 13, 13)] :: (((wsL_get_r1 ++ (wsL_get_r2 ++ wsL_get_r3)) ++ wsX20 ++ wsJx000600 ++ wsX10 ++ wsX00) ++ (ownTab2 ++ [Cond.classLink RL 13 RJx00060]))
def lgPc (D : va_G) (Y : Nat → ClassId) (av : List Value) (wW : va_W) (sz : Nat) : Array Value → State → Prop := va_Pc av (fun U => U.heap.size = sz ∧ va_P D vwCl wW U.heap ∧ va_K D vwCl (tyA Y) U ∧ va_D (fun _ => True) wW ∧ thrS2 U)
theorem lgPc_blind {D : va_G} {Y : Nat → ClassId} {av : List Value} {wW : va_W} {sz : Nat} : FrameBlind (lgPc D Y av wW sz) := fun a U g mk q => ⟨q.1, q.2.1, q.2.2.1, va_K.moved (u := U) (U := U.calling g mk a) (Vm.Alike.refl U.vm) q.2.2.2.1, q.2.2.2.2.1, thrS2.same (s := U) (U := U.calling g mk a) rfl rfl q.2.2.2.2.2⟩
theorem hdX2_get : yX2_get.cls = RX2 ∧ yX2_get.cls ≠ "java/lang/invoke/MethodHandle" ∧ yX2_get.cls ≠ "java/lang/invoke/VarHandle" ∧ (parseMethodDescriptor yX2_get.desc).map (fun d => d.parameters.length) = some 2 := by decide +kernel
set_option maxHeartbeats 4000000 in
set_option maxRecDepth 100000 in
theorem c_L_get (l : Launch) (hfl : l.flags = pinnedFlags ++ [noTraceFlag]) (D : va_G) (Y : Nat → ClassId) (ad : OA) (t : OS) (ou : Nat) (f : Nat → Int64) (x i : Int32) (sz : Nat) (hok : oOK t) : Met l yL_get wsL_getT ({ frames := 9, cells := 1, slots := 6, locals := 140 }) (lgPc D Y [.ref (oO ad), .int x, .int i, .ref ou] (oW Y ad t ++ lW Y ou f) sz) (va_Qi (fun (ans : Int32) (f' : Nat → Int64) => ans = (if pGetT t x i = true then 1 else 0) ∧ (pGetT t x i = false → f' 0 = (pGet t x i).toInt64)) (wrB D (va_A (oW Y ad t ++ lW Y ou f) sz) (fun f' : Nat → Int64 => oW Y ad t ++ lW Y ou f')) (va_A (oW Y ad t ++ lW Y ou f) sz)) 1 6 (va_A (oW Y ad t ++ lW Y ou f) sz) := by
  refine va_MetW (cc := cL_get) (maxL := 5) (ret := some .int) (hh := [(0, 10, 13, 13)]) (by decide) rfl ?_
  intro p e s m args below meth c s₁ B hml hv
  obtain ⟨rfl, rfl, hP, hK, hD0, hthr⟩ := hv
  have hown : s.vm.findClass RL = some m.cls := findClass_of_methodNamed B.named
  have hall := atoms_spec (ws := wsL_getT) B.pre
  have hts : ∀ w ∈ wsL_get, w.before [Value.ref (oO ad), .int x, .int i, .ref ou].toArray s = true := fun w hw => hall w (by
    rcases List.mem_cons.mp hw with h | h
    · rw [h]; exact List.mem_cons_self
    · exact List.mem_cons_of_mem _ (List.mem_append_left _ h))
  have htt : ∀ w ∈ ownTab2, w.before [Value.ref (oO ad), .int x, .int i, .ref ou].toArray s = true := fun w hw => hall w (List.mem_cons_of_mem _ (List.mem_append_right _ (List.mem_append_left _ hw)))
  have hcl13 : (Cond.classLink RL 13 RJx00060).before [Value.ref (oO ad), .int x, .int i, .ref ou].toArray s = true := hall _ (List.mem_cons_of_mem _ (List.mem_append_right _ (List.mem_append_right _ List.mem_cons_self)))
  obtain ⟨m9, meth9, c9, hn9, hm9, hc9, -, -, htab, -⟩ := Cond.codeWith_spec (hall (.codeWith yL_get cL_get 5 (some .int) [(0, 10, 13, 13)]) List.mem_cons_self)
  cases B.named.symm.trans hn9
  cases B.method.symm.trans hm9
  cases (Stand.of_body B).code.symm.trans hc9
  have hx := B.exec
  have hb := B.bytes
  have hr := B.returns
  have hlocks := B.notSynchronized
  have hA : ∀ q, s.heap.size ≤ q → va_A (oW Y ad t ++ lW Y ou f) s.heap.size q := fun q h => Or.inr h
  have hD : va_D (va_A (oW Y ad t ++ lW Y ou f) s.heap.size) (oW Y ad t ++ lW Y ou f) := hD0.self
  have hS : va_S (va_A (oW Y ad t ++ lW Y ou f) s.heap.size) s.heap s.heap [] := va_S.rf
  generalize va_A (oW Y ad t ++ lW Y ou f) s.heap.size = A at hA hD hS
  rw [lg_entry_eq]
  have hl := lv_entry (n := 5) [Value.ref (oO ad), .int x, .int i, .ref ou] (Nat.le_of_ble_eq_true rfl)
  have hl : lv_has _ 5 [(0, .ref (oO ad)), (1, .int x), (2, .int i), (3, .ref ou)] := hl
  refine (fun (key : ∀ ls : Array Slot, lv_has ls 5 [(0, .ref (oO ad)), (1, .int x), (2, .int i), (3, .ref ou)] → W p l e _ s m _ below meth c s.heap [] 0 0 _ (F0 m 0 ls [])) => key _ hl) ?_
  clear hl
  intro ls hl
  refine lv_aload_n hx hb dL_get_0 rfl (lv_at hl 3 rfl) ?_
  refine lv_iconst (v := 0) hx hb dL_get_1 (by decide) ?_
  refine lv_aload_n hx hb dL_get_2 rfl (lv_at hl 0 rfl) ?_
  refine lv_iload_n hx hb dL_get_3 rfl (lv_at hl 1 rfl) ?_
  refine lv_iload_n hx hb dL_get_4 rfl (lv_at hl 2 rfl) ?_
  cases hT : pGetT t x i
  · refine rcI (As := [.int x, .int i]) (rest := [.int 0, .ref ou]) ⟨hx, hb, hml, hown, hts⟩ (c_X2_get l D Y ad t x i hok hT) (cwV 2 hts gL_get_X2_get rfl rfl rfl hdX2_get ⟨Nat.le_of_ble_eq_true rfl, Nat.le_of_ble_eq_true rfl⟩) (oPR hP) hK 0 3 rfl rfl rfl hl.1 rfl (Nat.le_of_ble_eq_true rfl) dL_get_5 ⟨Nat.zero_le _, Nat.zero_le _⟩ (fun r hr9 => ?_)
    have hr9 : r = pGet t x i := hr9
    refine lv_i2l (v := (pGet t x i).toInt64) hx hb dL_get_8 (by rw [hr9]) ?_
    refine va_last hx hb hK hP hD hS 26 3 rfl rfl (i := 0) (vp_in_nI (n := 0) (N := 1) (by omega) (by omega)) dL_get_9 (fun H locs hP hD hS => ?_)
    have hP : va_P D vwCl (oW Y ad t ++ lW Y ou (vp_updL f (0 : Int32).toNatClampNeg (pGet t x i).toInt64)) H := hP
    have hD : va_D A (oW Y ad t ++ lW Y ou (vp_updL f (0 : Int32).toNatClampNeg (pGet t x i).toInt64)) := hD
    refine lv_goto (tgt := 17) hx hb dL_get_10 (by decide) ?_
    refine lv_iconst (v := 0) hx hb dL_get_17 (by decide) ?_
    refine W.widen (k := 1) (n := 6) (by omega) (by omega) ?_
    exact weI (wf := fun f' : Nat → Int64 => oW Y ad t ++ lW Y ou f') (vp_updL f (0 : Int32).toNatClampNeg (pGet t x i).toInt64) hx hb hr hlocks hP hD hS dL_get_18 ⟨by rw [if_neg (by decide)], fun _ => pk_uLs⟩
  · intro T hTh X
    obtain ⟨x0, htab0, y1, y2, y3, y4⟩ : ∃ x0, c.exceptionTable.toList = [x0] ∧ x0.startPc = 0 ∧ x0.endPc = 10 ∧ x0.handlerPc = 13 ∧ x0.catchType = 13 := by
      cases hlst : c.exceptionTable.toList with
      | nil => rw [hlst] at htab; cases htab
      | cons x0 rr =>
        cases rr with
        | nil =>
          rw [hlst] at htab
          simp only [List.map_cons, List.map_nil, List.cons.injEq, Prod.mk.injEq, and_true] at htab
          exact ⟨x0, rfl, htab.1, htab.2.1, htab.2.2.1, htab.2.2.2⟩
        | cons _ _ => rw [hlst] at htab; simp at htab
    obtain ⟨cellB, hcb, hob, hcb2⟩ := va_recv (q := (RX2, TX2, 10)) (ci := 3) (q0 := 0) (a := oO ad) hK (oPR hP) rfl rfl
    have hback : BackT l _ p e below s [Value.ref (oO ad), .int x, .int i, .ref ou].toArray yX2_get 3 8 _ _ := backT_of (R := { frames := 9, cells := 1, slots := 6, locals := 140 }) (bytes := cX2_get) (maxL := 3) (ret := some .int) (c_X2_getT2 l hfl D Y ad t x i hok hT) thrPc2_blind rfl rfl (Nat.le_of_ble_eq_true rfl) (Nat.le_of_ble_eq_true rfl) (fun w hw a' U hW => by
        rcases List.mem_cons.mp hw with q | q
        · have g := ggL_get_X2_get w (by rw [q]; exact List.mem_cons_self)
          exact word_at hW g.2 (hts w g.1)
        · rcases List.mem_append.mp q with q | q
          · have g := ggL_get_X2_get w (List.mem_cons_of_mem _ q)
            exact word_at hW g.2 (hts w g.1)
          · exact wordF hW (own_good2 w q) (htt w q)) List.mem_cons_self (fun a' U hW => word_at hW (Or.inl (by decide +kernel)) (hts (.initialized RX2) (by decide +kernel)))
    obtain ⟨v, vm₁, B9, hW1, X', hpost, hsteps⟩ := callVT X hx (own := RL) (C := RX2) (index := 7) (y := yX2_get) (bytes := cX2_get) (maxL := 3) (ret := some .int) hown (hts (.methodLink RL 7 yX2_get) (by decide +kernel)) (hts (.instanceMethod yX2_get) (by decide +kernel)) (hts (.selects RX2 yX2_get yX2_get) (by decide +kernel)) (hts (.code yX2_get cX2_get 3 (some .int)) (by decide +kernel)) ⟨hdX2_get.2.1, hdX2_get.2.2.1⟩ hback (b := oO ad) (cellB := cellB) (by rw [hTh]; exact hcb) hob hcb2 (g := F0 m 5 ls [.int i, .int x, .ref (oO ad), .int 0, .ref ou]) rfl (hl.1.trans hml.symm) (argsL := [.int x, .int i]) (rest := [.int 0, .ref ou]) (fun sig hsig => by
        have := hdX2_get.2.2.2
        rw [hsig] at this
        exact (Option.some.inj this).symm) rfl (Nat.le_of_ble_eq_true rfl) (by rw [hb]; exact dL_get_5) (fun vm₁ hW => ⟨Nat.le_of_ble_eq_true rfl, Nat.le_of_ble_eq_true rfl, rfl, by show va_P D vwCl _ T.heap; rw [hTh]; exact oPR hP, va_K.moved hW.alike hK, thrS2.warm (s := s) (U := T.setVm vm₁) hW (fun q cell hq _ => by show T.heap[q]? = _; rw [hTh]; exact hq) hthr⟩)
    obtain ⟨U', ls', cc', sl'⟩ := B9
    obtain ⟨g', mk, t', L, e1, e2, hq, hl9, hL, hc9', hs9⟩ := hpost
    dsimp only [Pt.U, Pt.locs, Pt.cells, Pt.slots] at X' e1 e2 hl9 hc9' hs9 hsteps
    have hL0 : L = [] := by
      cases L with
      | nil => rfl
      | cons q _ => exact (hL q List.mem_cons_self).elim
    subst hL0
    subst hl9; subst hc9'; subst hs9
    obtain ⟨⟨a9, ce, ha, hce, hst, hcl, hself⟩, hsz, hkeep⟩ := hq
    cases ha
    have hsz : T.heap.size ≤ t'.heap.size := hsz
    have hkeep : ∀ (q : Nat) (cell : Cell), T.heap[q]? = some cell → t'.heap[q]? = some cell := hkeep
    have hcl : vm₁.findClass RJx00060 = some ce.cls := hcl
    have hself : vm₁.assignable ce.cls ce.cls = true := hself
    rw [hTh] at hsz hkeep
    have hcl' : s.vm.findClass RJx00060 = some ce.cls := by rw [← hW1.alike.findClass]; exact hcl
    have hself' : s.vm.assignable ce.cls ce.cls = true := by rw [← hW1.alike.assignable]; exact hself
    obtain ⟨vm', X'', hgo⟩ := catchCold X' (own := RL) (C := RJx00060) hown v (g := { F0 m 5 ls [.int i, .int x, .ref (oO ad), .int 0, .ref ou] with stack := [.int 0, .ref ou] }) rfl htab0 (by rw [y4]; exact hcl13) (by show (decide (x0.startPc ≤ 5) && decide (5 < x0.endPc)) = true; rw [y1, y2]; decide) (by rw [y4]; decide) (cell := ce) (by rw [e1]; exact hce) hst hcl' hself'
    have hP9 : va_P D vwCl (oW Y ad t ++ lW Y ou f) U'.heap := fun k q hq => by
      refine (hP k q hq).kept ?_
      have hlt := (hP k q hq).lt
      obtain ⟨cell, hcell⟩ : ∃ cell, s.heap[q.1]? = some cell := ⟨_, Array.getElem?_eq_getElem hlt⟩
      rw [hcell, e1]; exact hkeep q.1 cell hcell
    have hS9 : va_S A s.heap U'.heap [] := ⟨by rw [e1]; exact hsz, fun q hq _ => by
      obtain ⟨cell, hcell⟩ : ∃ cell, s.heap[q]? = some cell := ⟨_, Array.getElem?_eq_getElem hq⟩
      rw [hcell, e1]; exact hkeep q cell hcell, fun _ h => by cases h⟩
    have rest : W p l e { frames := 9, cells := 1, slots := 6, locals := 140 } s m [Value.ref (oO ad), .int x, .int i, .ref ou].toArray below meth c U'.heap [] 1 6 (MQ below (va_Qi (fun (ans : Int32) (f' : Nat → Int64) => ans = (if pGetT t x i = true then 1 else 0) ∧ (pGetT t x i = false → f' 0 = (pGet t x i).toInt64)) (wrB D A (fun f' : Nat → Int64 => oW Y ad t ++ lW Y ou f')) A) [Value.ref (oO ad), .int x, .int i, .ref ou].toArray s 1 6 A) (F0 m 13 ls [.ref v]) := by
      refine lv_astore (lv' := [(4, .ref v), (0, .ref (oO ad)), (1, .int x), (2, .int i), (3, .ref ou)]) hx hb dL_get_13 hl (by decide) rfl (fun ls hl => ?_)
      refine lv_iconst (v := 1) hx hb dL_get_15 (by decide) ?_
      exact weI (wf := fun f' : Nat → Int64 => oW Y ad t ++ lW Y ou f') f hx hb hr hlocks hP9 hD hS9 dL_get_16 ⟨by rw [hT, if_pos rfl], fun q => by rw [hT] at q; cases q⟩
    rw [y3] at hgo
    obtain ⟨t9, st9, q9⟩ := rest (U'.setVm vm') rfl X''
    rw [hT] at q9
    exact ⟨t9, hsteps.trans (hgo _ st9), q9⟩
