section LWJ
variable {p : Program} {l : Launch} {e : Env} {s : State} {m : MethodId} {below : List Frame} {meth : Method} {c : Code} {H : Heap} {cells slots : Nat} {b L k pc : Nat} {xs : Nat → Int32} {D : va_G} {Y : Nat → ClassId} {ls : Array Slot} {rest : List Value} {a : AS} {ad : OA} {t : OS} {K : Nat → Option (CA × CS)} {ma : MA} {S : MS} {ou : Nat} {f : Nat → Int64} {Q : State → Prop}
theorem hdL_get : (yL_get.cls ≠ "java/lang/invoke/MethodHandle" ∧ yL_get.cls ≠ "java/lang/invoke/VarHandle") ∧ (parseMethodDescriptor yL_get.desc).map (fun d => d.parameters.length) = some 4 := by decide +kernel
theorem callSW {R : Room} {args : Array Value} {T : State} {locs : List Loc} (X : Stand p l e R s m args below meth c T locs cells slots) (hexec : p.tables.exec = Jvm.exec) {own : String} {index : Nat} {y : MethodName} {bytes : ByteArray} {maxL : Nat} {ret : Option FieldType} {hh : List (Nat × Nat × Nat × Nat)}
    (hown : s.vm.findClass own = some m.cls) (hlink : (Cond.methodLink own index y).before args s = true) (hstat : (Cond.static y).before args s = true) (hinit : (Cond.initialized y.cls).before args s = true)
    (hcode : (Cond.codeWith y bytes maxL ret hh).before args s = true) (hy : y.cls ≠ "java/lang/invoke/MethodHandle" ∧ y.cls ≠ "java/lang/invoke/VarHandle")
    {W : Nat} {Pre : Pt → Array Value → Prop} {Post : Pt → Array Value → Option Value → Pt → Prop} (hK : Back l R p e below s args y 3 W Pre Post)
    {g : JFrame} (hg : g.method = m) (hsize : g.locals.size = c.maxLocals) {argsL rest : List Value} (hlen : ∀ sig, parseMethodDescriptor y.desc = some sig → argsL.length = sig.parameters.length)
    (hstack : g.stack = argsL.reverse ++ rest) (hW : 2 * g.monitorRoom + (rest.map fun v => v.category).sum ≤ W) (hdg : decode c.code g.pc = .ok (.invokestatic index, 3))
    (hpre : ∀ vm₁, s.WarmedH vm₁ → Pre ⟨T.setVm vm₁, locs, cells, slots⟩ argsL.toArray) :
    ∃ (v : Option Value) (vm₁ : Vm) (B : Pt), s.WarmedH vm₁ ∧ Stand p l e R s m args below meth c B.U B.locs B.cells B.slots ∧ Post ⟨T.setVm vm₁, locs, cells, slots⟩ argsL.toArray v B ∧
      ∀ target, Steps p.tables e below (B.U.setTop { g with pc := g.pc + 3, stack := v.toList ++ rest }) target → Steps p.tables e below (T.setTop g) target := by
  obtain ⟨mk, methM, cM, hnamed, hmethM, -, -, -, -, -, -, hsigM⟩ := Cond.codeWith_spec hcode
  have hstatic : methM.isStatic = true := Cond.static_spec hnamed hmethM hstat
  obtain ⟨kP, hkP, -⟩ := className_of_methodNamed hnamed
  have hinitP : kP.init = .initialized := Cond.initialized_spec (findClass_of_methodNamed hnamed) hkP hinit
  obtain ⟨vm₁, X₁, hstep₁⟩ := X.invokestatic hexec hown hlink hnamed hmethM hstatic hkP hinitP hy (g := g) hg (argsL := argsL) (rest := rest) (hlen _ hsigM) hstack hdg
  obtain ⟨v, B, X', hpost, hsteps⟩ := hK m meth c ⟨T.setVm vm₁, locs, cells, slots⟩ { g with stack := rest } (.invokestatic index) mk argsL.toArray X₁ hg hsize hdg hW (X₁.named hnamed) (hpre vm₁ X₁.warmed)
  exact ⟨v, vm₁, B, X₁.warmed, X', hpost, fun target h => hstep₁ _ fun acts => by rw [doInvoke_state]; exact hsteps.trans h⟩
/-- what the law's get wants besides -/
def LT (l : Launch) (s : State) (b : Nat) : Prop := l.flags = pinnedFlags ++ [noTraceFlag] ∧ thrS2 s ∧ (∀ w ∈ ownTab2, w.before #[Value.ref b] s = true) ∧ (Cond.classLink RL 13 RJx00060).before #[Value.ref b] s = true
set_option maxHeartbeats 4000000 in
set_option maxRecDepth 100000 in
theorem lw_callget (hT : LT l s b) (C : LC p s m c b L xs D Y) (hok : oOK t) (hP : va_P D vwCl (lwW Y ad t K ma S ou f) H) (hD : va_D (lA s) (lwW Y ad t K ma S ou f)) (hS : va_S (lA s) s.heap H []) (hsz : ls.size = 7) (hf : cells + 1 ≤ room_1.cells ∧ slots + 6 ≤ room_1.slots) {x i : Int32}
    (kk : ∀ (r : Int32) (f' : Nat → Int64) (H1 : Heap) (locs1 : List Loc), r = (if pGetT t x i = true then 1 else 0) ∧ (pGetT t x i = false → f' 0 = (pGet t x i).toInt64) → va_P D vwCl (lwW Y ad t K ma S ou f') H1 → va_D (lA s) (lwW Y ad t K ma S ou f') → va_S (lA s) s.heap H1 locs1 → W p l e room_1 s m #[Value.ref b] below meth c H1 locs1 (cells + 1) (slots + 6) Q (F0 m 211 ls [.int r])) : W p l e room_1 s m #[Value.ref b] below meth c H [] cells slots Q (F0 m 208 ls [.ref ou, .int i, .int x, .ref (oO ad)]) := by
  obtain ⟨hx, hb, hml, hown, hts, hK, hNe, hX, hbl, hL⟩ := C
  obtain ⟨hfl, hthr, htt, h13⟩ := hT
  have hA : ∀ q, s.heap.size ≤ q → lA s q := fun _ h => h
  obtain ⟨hPl, hDl⟩ := lL ⟨hP, hD⟩
  have hPc : va_P D vwCl (oW Y ad t ++ lW Y ou f) H := oPR hPl
  have hDc : va_D (lA s) (oW Y ad t ++ lW Y ou f) := va_D_left hDl
  have hFc := va_A_in hDc hS hA
  have hback : Back l room_1 p e below s #[Value.ref b] yL_get 3 8 _ _ := va_backW (R := room_1) (bytes := cL_get) (maxL := 5) (ret := some .int) (hh := [(0, 10, 13, 13)]) (c_L_get l hfl D Y ad t ou f x i H.size hok) lgPc_blind rfl rfl (Nat.le_of_ble_eq_true rfl) (Nat.le_of_ble_eq_true rfl) (fun w hw a' U hW => by
      rcases List.mem_cons.mp hw with q | q
      · have g := ggL_law_L_get w (by rw [q]; exact List.mem_cons_self)
        exact word_at hW g.2 (hts w g.1)
      · rcases List.mem_append.mp q with q | q
        · have g := ggL_law_L_get w (List.mem_cons_of_mem _ q)
          exact word_at hW g.2 (hts w g.1)
        · rcases List.mem_append.mp q with q | q
          · exact wordF hW (own_good2 w q) (htt w q)
          · cases List.mem_singleton.mp q
            exact wordF hW (by decide +kernel) h13) List.mem_cons_self (fun a' U hW => word_at hW (Or.inl (by decide +kernel)) (hts (.initialized RL) (by decide +kernel)))
  have hrun : va_Run p l e room_1 s m #[Value.ref b] below meth c H [] cells slots 1 6 (F0 m 208 ls [.ref ou, .int i, .int x, .ref (oO ad)]) [] (va_Qi (fun (ans : Int32) (f' : Nat → Int64) => ans = (if pGetT t x i = true then 1 else 0) ∧ (pGetT t x i = false → f' 0 = (pGet t x i).toInt64)) (wrB D (va_A (oW Y ad t ++ lW Y ou f) H.size) (fun f' : Nat → Int64 => oW Y ad t ++ lW Y ou f')) (va_A (oW Y ad t ++ lW Y ou f) H.size) ([Value.ref (oO ad), .int x, .int i, .ref ou]).toArray) (va_A (oW Y ad t ++ lW Y ou f) H.size) := by
    intro T hTh X
    obtain ⟨v, vm₁, ⟨U', l2, c2, s2⟩, hW₁, X', ⟨g', mk, t', L', e1, e2, hq, h1, hL', h2, h3⟩, st⟩ := callSW X hx (own := RL) (index := 28) (y := yL_get) (bytes := cL_get) (maxL := 5) (ret := some .int) (hh := [(0, 10, 13, 13)]) hown (hts (.methodLink RL 28 yL_get) (by decide +kernel)) (hts (.static yL_get) (by decide +kernel)) (hts (.initialized RL) (by decide +kernel)) (hts (.codeWith yL_get cL_get 5 (some .int) [(0, 10, 13, 13)]) (by decide +kernel)) hdL_get.1 hback (g := F0 m 208 ls [.ref ou, .int i, .int x, .ref (oO ad)]) rfl (hsz.trans hml.symm) (argsL := [.ref (oO ad), .int x, .int i, .ref ou]) (rest := []) (fun sig hsig => by
        have := hdL_get.2
        rw [hsig] at this
        exact (Option.some.inj this).symm) rfl (Nat.le_of_ble_eq_true rfl) (by rw [hb]; exact dL_law_208) (fun vm₁ hW => ⟨hf.1, hf.2, rfl, by show T.heap.size = _; rw [hTh], by show va_P D vwCl _ T.heap; rw [hTh]; exact hPc, va_K.moved hW.alike hK, hDc.weaken (fun _ _ _ _ => trivial), thrS2.warm (s := s) (U := T.setVm vm₁) hW (fun q cell hq _ => by
        show T.heap[q]? = _
        rw [hTh, hS.2.1 q ((Array.getElem?_eq_some_iff.mp hq).1) (Nat.not_le.mpr ((Array.getElem?_eq_some_iff.mp hq).1))]
        exact hq) hthr⟩)
    dsimp only [Pt.U, Pt.locs, Pt.cells, Pt.slots] at X' e1 e2 h1 h2 h3 st
    subst h1; subst h2; subst h3
    exact ⟨v, (T.setVm vm₁).calling g' mk _, t', U', _, hTh, X', hL', e1, e2, hq, st⟩
  refine va_calli hrun hS (fun q _ h => hFc q h) hFc (fun r u t' H1 locs1 ht hvm hw hB hz1 hk1 hS1 => ?_)
  obtain ⟨h1, h2⟩ := hB
  rw [ht] at h1
  obtain ⟨a1, a2⟩ := lFl hP hD hS hA u H1 hk1 h1 h2
  exact kk r u H1 locs1 hw a1 a2 hS1
theorem lvT {n : Nat} {q : Nat × Value} {lv : List (Nat × Value)} (h : lv_has ls n (q :: lv)) : lv_has ls n lv := ⟨h.1, h.2.1, fun x hx => h.2.2 x (List.mem_cons_of_mem _ hx)⟩
set_option maxHeartbeats 4000000 in
set_option maxRecDepth 100000 in
theorem lw_get (hT : LT l s b) (C : LC p s m c b L xs D Y) (hN : LN p l e s m below meth c b k D Y) (hk : 4 * k + 4 ≤ L) (hS0 : LSt D Y s H a ad t K ma S ou f) (hl : lv_has ls 7 (lLv b k ad ma ou)) : W p l e room_1 s m #[Value.ref b] below meth c H [] (lCe k) (lSl k t K) (lw_Z below #[Value.ref b] s) (F0 m 194 ls []) := by
  have C0 := C
  obtain ⟨hx, hb, hml, hown, hts, hK, hNe, hX, hbl, hL⟩ := C0
  obtain ⟨hR, hP, hD, hS⟩ := hS0
  have hce : lCe k + 30 ≤ room_1.cells := Nat.le_trans (m := 600000) (by unfold lCe; omega) (by decide)
  have hsl : lSl k t K + 100000 ≤ room_1.slots := Nat.le_trans (m := 7000000) (by have := hR.psi_le; unfold lSl; omega) (by decide)
  have hA : ∀ q, s.heap.size ≤ q → lA s q := fun _ h => h
  refine lv_aload_n hx hb dL_law_194 rfl (lv_at hl 2 rfl) ?_
  refine lw_a1 C hk hS hl dL_law_195 dL_law_196 dL_law_198 dL_law_199 dL_law_200 ?_
  refine lw_a2 C hk hS hl dL_law_201 dL_law_202 dL_law_204 dL_law_205 dL_law_206 ?_
  refine lv_aload_n hx hb dL_law_207 rfl (lv_at hl 4 rfl) ?_
  refine lw_callget hT C hR.ok hP hD hS hl.1 ⟨by omega, by omega⟩ (fun r9 f' H locs hr hP hD hS => ?_)
  refine va_forget hS.2.2 ?_
  replace hS := nS hS
  obtain ⟨hr1, hr2⟩ := hr
  have hg := hR.get (lX xs k 1) (lX xs k 2)
  refine lv_istore (lv' := (5, .int r9) :: lLv b k ad ma ou) hx hb dL_law_211 hl (by decide) rfl (fun ls hl5 => ?_)
  have hl := lvT hl5
  refine lv_aload_n hx hb dL_law_213 rfl (lv_at hl 3 rfl) ?_
  refine lw_a1 C hk hS hl dL_law_214 dL_law_215 dL_law_217 dL_law_218 dL_law_219 ?_
  refine lw_a2 C hk hS hl dL_law_220 dL_law_221 dL_law_223 dL_law_224 dL_law_225 ?_
  refine wcI (wN := fun u : MS => lwW Y ad t K ma u ou f') (As := [.int (lX xs k 1), .int (lX xs k 2)]) (rest := []) ⟨hx, hb, hml, hown, hts⟩ (c_X3_get l D Y ma S _ (lX xs k 1) (lX xs k 2) hR.mv) (cwV 2 hts gL_law_X3_get rfl rfl rfl hdX3_get ⟨(Nat.le_of_ble_eq_true rfl), (Nat.le_of_ble_eq_true rfl)⟩) (oPR (lM ⟨hP, hD⟩).1) (va_D_left (lM ⟨hP, hD⟩).2) hK hS hA 0 4 rfl rfl rfl hl.1 rfl (Nat.le_of_ble_eq_true rfl) dL_law_226 ⟨by show _ ≤ room_1.cells; omega, by show _ ≤ room_1.slots; omega⟩ (lFm hP hD hS hA) (fun r8 u8 H locs hu hP hD hS => ?_)
  refine va_forget hS.2.2 ?_
  replace hS := nS hS
  obtain ⟨hu1, rfl⟩ := hu
  refine lv_istore (lv' := (6, .int r8) :: (5, .int r9) :: lLv b k ad ma ou) hx hb dL_law_229 hl5 (by decide) rfl (fun ls hl6 => ?_)
  have hl5 := lvT hl6
  have hl := lvT hl5
  refine lv_aload_n hx hb dL_law_231 rfl (lv_at hl 3 rfl) ?_
  refine rcI (As := []) (rest := []) ⟨hx, hb, hml, hown, hts⟩ (c_X3_thrown l D Y ma (mSetThr S (fThr S (lX xs k 1) (lX xs k 2)))) (cwV 0 hts gL_law_X3_thrown rfl rfl rfl hdX3_thrown ⟨(Nat.le_of_ble_eq_true rfl), (Nat.le_of_ble_eq_true rfl)⟩) (oPR (lM ⟨hP, hD⟩).1) hK 0 4 rfl rfl rfl hl.1 rfl (Nat.le_of_ble_eq_true rfl) dL_law_232 ⟨by show _ ≤ room_1.cells; omega, by show _ ≤ room_1.slots; omega⟩ (fun r7 hr7 => ?_)
  have hr7 : r7 = fThr S (lX xs k 1) (lX xs k 2) := hr7
  have fin : W p l e room_1 s m #[Value.ref b] below meth c H [] (lCe k + 1) (lSl k t K + 6) (lw_Z below #[Value.ref b] s) (F0 m 259 ls []) := by
    refine lv_goto (tgt := 645) hx hb dL_law_259 (by decide) ?_
    exact l645 C hN ⟨hR.thr _, hP, hD, hS⟩ hl (by unfold lCe; omega) (by unfold lSl; omega)
  refine lv_iload hx hb dL_law_235 (lv_at hl5 0 rfl) ?_
  refine lv_icmp_eq (tgt := 242) hx hb dL_law_237 (by decide) (fun _ => ?_) (fun hne => absurd (?_ : r7 = r9) hne)
  rotate_left
  · rw [hr7, hr1]
    split
    · next h => exact hg.1.mp h
    · next h =>
      rcases hg.2.1 with q | q
      · exact q
      · exact absurd (hg.1.mpr q) h
  refine lv_iload hx hb dL_law_242 (lv_at hl5 0 rfl) ?_
  refine lv_if_ne (tgt := 259) hx hb dL_law_244 (by decide) (fun _ => fin) (fun h0 => ?_)
  have hgt : pGetT t (lX xs k 1) (lX xs k 2) = false := by
    cases hq : pGetT t (lX xs k 1) (lX xs k 2)
    · rfl
    · rw [hq, if_pos rfl] at hr1
      rw [hr1] at h0
      exact absurd h0 (by decide)
  refine lv_aload_n hx hb dL_law_247 rfl (lv_at hl 4 rfl) ?_
  refine lv_iconst (v := 0) hx hb dL_law_248 (by decide) ?_
  refine va_lald hx hb hK (oPR (lL ⟨hP, hD⟩).1) 26 3 rfl rfl (vp_in_nI (n := 0) (N := 1) (by omega) (by omega)) dL_law_249 ?_
  refine lv_iload hx hb dL_law_250 (lv_at hl6 0 rfl) ?_
  refine lv_i2l hx hb dL_law_252 rfl ?_
  refine W.lcmp hx hb dL_law_253 ?_
  refine lv_if_eq (tgt := 259) hx hb dL_law_254 (by decide) (fun _ => fin) (fun hne => absurd ?_ (lgc_ne hne))
  have e1 : f' (0 : Int32).toNatClampNeg = (pGet t (lX xs k 1) (lX xs k 2)).toInt64 := hr2 hgt
  rw [e1, hu1, hg.2.2 hgt]
end LWJ
