/-! the law's start: the walk -/
theorem hdl_X2_init : yX2_init.cls ≠ "java/lang/invoke/MethodHandle" ∧ yX2_init.cls ≠ "java/lang/invoke/VarHandle" ∧ (parseMethodDescriptor yX2_init.desc).map (fun d => d.parameters.length) = some 0 := by decide +kernel
theorem hdl_X3_init : yX3_init.cls ≠ "java/lang/invoke/MethodHandle" ∧ yX3_init.cls ≠ "java/lang/invoke/VarHandle" ∧ (parseMethodDescriptor yX3_init.desc).map (fun d => d.parameters.length) = some 0 := by decide +kernel
section LWL
variable {p : Program} {l : Launch} {e : Env} {R : Room} {s : State} {m : MethodId} {args : Array Value} {below : List Frame} {meth : Method} {c : Code} {H : Heap} {locs : List Loc} {cells slots : Nat} {Q : State → Prop}
variable {y : MethodName} {bytes cc : ByteArray} {maxL nL n index mc ms : Nat} {ws : List Cond} {rm : Room} {Ts : List Cond} {own host : String} {b : Addr} {As rest st0 : List Value} {pc : Nat} {ls : Array Slot} {D : va_G} {Y : Nat → ClassId} {wc : va_W} {H0 : Heap} {A : Nat → Prop} {S : Type} {wf wN : S → va_W}
theorem wcCN {post : S → Prop} (S0 : CallFix p m c cc nL s args Ts own) (hM : Met l y ws rm (niPc D Y (.ref b :: As) wc H.size) (va_Qv post (wrB D (va_A wc H.size) wf) (va_A wc H.size)) mc ms (va_A wc H.size)) (cw : CallB R s args own index y bytes maxL none ws rm mc ms n ∧ y.name = "<init>" ∧ (Cond.instanceMethod y).before args s = true) (hPc : va_P D vwCl wc H) (hDc : va_D A wc) (hK : va_K D vwCl (tyA Y) s) (hNe : nestW s) (hS : va_S A H0 H locs) (hA : ∀ q, H0.size ≤ q → A q) (hn : As.length = n) (hsize : ls.size = nL) (hstack : st0 = As.reverse ++ .ref b :: rest) (hW : (rest.map fun v => v.category).sum ≤ 8) (hdg : decode cc pc = .ok (.invokespecial index, 3)) (hf : cells + mc ≤ R.cells ∧ slots + ms ≤ R.slots)
    (hfr : ∀ (u : S) (H1 : Heap), (∀ q : Nat, q < H.size → ¬ va_A wc H.size q → H1[q]? = H[q]?) → va_P D vwCl (wf u) H1 → va_D (va_A wc H.size) (wf u) → va_P D vwCl (wN u) H1 ∧ va_D A (wN u))
    (kk : ∀ (u : S) (H1 : Heap) (locs1 : List Loc), post u → va_P D vwCl (wN u) H1 → va_D A (wN u) → va_S A H0 H1 locs1 → W p l e R s m args below meth c H1 locs1 (cells + mc) (slots + ms) Q (F0 m (pc + 3) ls rest)) : W p l e R s m args below meth c H locs cells slots Q (F0 m pc ls st0) := by
  have hFc := va_A_in hDc hS hA
  refine va_callv (va_runI (As := As) (rest := rest) S0 hM cw ⟨niPc_blind, fun U hU hWm => ⟨rfl, by rw [hU], by rw [hU]; exact hPc, va_K.moved hWm.alike hK, hDc.weaken (fun _ _ _ _ => trivial), nestW.warm hWm hNe⟩⟩ rfl hn hsize hstack (lv_room hW) hdg hf) hS (fun q _ h => hFc q h) hFc (fun u t H1 locs1 ht hvm hw hB hz1 hk1 hS1 => ?_)
  obtain ⟨h1, h2⟩ := hB
  rw [ht] at h1
  obtain ⟨a1, a2⟩ := hfr u H1 hk1 h1 h2
  exact kk u H1 locs1 hw a1 a2 hS1
theorem wcCW {post : S → Prop} (S0 : CallFix p m c cc nL s args Ts own) (hM : Met l y ws rm (wrPc D Y (.ref b :: As) wc H.size) (va_Qv post (wrB D (va_A wc H.size) wf) (va_A wc H.size)) mc ms (va_A wc H.size)) (cw : CallB R s args own index y bytes maxL none ws rm mc ms n ∧ y.name = "<init>" ∧ (Cond.instanceMethod y).before args s = true) (hPc : va_P D vwCl wc H) (hDc : va_D A wc) (hK : va_K D vwCl (tyA Y) s) (hS : va_S A H0 H locs) (hA : ∀ q, H0.size ≤ q → A q) (hn : As.length = n) (hsize : ls.size = nL) (hstack : st0 = As.reverse ++ .ref b :: rest) (hW : (rest.map fun v => v.category).sum ≤ 8) (hdg : decode cc pc = .ok (.invokespecial index, 3)) (hf : cells + mc ≤ R.cells ∧ slots + ms ≤ R.slots)
    (hfr : ∀ (u : S) (H1 : Heap), (∀ q : Nat, q < H.size → ¬ va_A wc H.size q → H1[q]? = H[q]?) → va_P D vwCl (wf u) H1 → va_D (va_A wc H.size) (wf u) → va_P D vwCl (wN u) H1 ∧ va_D A (wN u))
    (kk : ∀ (u : S) (H1 : Heap) (locs1 : List Loc), post u → va_P D vwCl (wN u) H1 → va_D A (wN u) → va_S A H0 H1 locs1 → W p l e R s m args below meth c H1 locs1 (cells + mc) (slots + ms) Q (F0 m (pc + 3) ls rest)) : W p l e R s m args below meth c H locs cells slots Q (F0 m pc ls st0) := by
  have hFc := va_A_in hDc hS hA
  refine va_callv (va_runI (As := As) (rest := rest) S0 hM cw ⟨wrPc_blind, fun U hU hWm => ⟨rfl, by rw [hU], by rw [hU]; exact hPc, va_K.moved hWm.alike hK, hDc.weaken (fun _ _ _ _ => trivial)⟩⟩ rfl hn hsize hstack (lv_room hW) hdg hf) hS (fun q _ h => hFc q h) hFc (fun u t H1 locs1 ht hvm hw hB hz1 hk1 hS1 => ?_)
  obtain ⟨h1, h2⟩ := hB
  rw [ht] at h1
  obtain ⟨a1, a2⟩ := hfr u H1 hk1 h1 h2
  exact kk u H1 locs1 hw a1 a2 hS1
end LWL
theorem pS (m o k w : va_W) : ((m ++ (o ++ k)) ++ w).Perm (o ++ (k ++ (m ++ w))) := perm_cnt (fun f hf => by simp only [hf]; omega)
set_option maxHeartbeats 4000000 in
set_option maxRecDepth 100000 in
theorem whole_start {p : Program} (l : Launch) (hfl : l.flags = pinnedFlags ++ [noTraceFlag]) {e : Env} {s : State} {m : MethodId} {below : List Frame} {meth : Method} {c : Code} {b L : Nat} {xs : Nat → Int32} (hL : L ≤ 2048) (h : lw_At p s m meth c b L xs) : W p l e room_1 s m #[Value.ref b] below meth c s.heap [] 0 0 (lw_Z below #[Value.ref b] s) (entryFrame m ([Value.ref b] : List Value).toArray 7) := by
  obtain ⟨hx, hb, hr, hml, hown, htb, hX, hbl, hlocks, hgv⟩ := h
  have hb : c.code = cL_law := hb
  have hown : s.vm.findClass RL = some m.cls := hown
  have hts : ∀ w ∈ wsL_law, w.before #[Value.ref b] s = true := fun w h => htb w (wsL_law_in w h)
  obtain ⟨D, Y, hK⟩ := lw_known htb
  have hNe : nestW s := lw_nest htb
  have hT : LT l s b := ⟨hfl, lw_thr htb hgv, fun w h => htb w (tw_o w h), htb _ (tw_n (.classLink RL 13 RJx00060) (by simp))⟩
  have C : LC p s m c b L xs D Y := ⟨hx, hb, hml, hown, hts, hK, hNe, hX, hbl, hL⟩
  have hA : ∀ q, s.heap.size ≤ q → lA s q := fun _ h => h
  have hP : va_P D vwCl [] s.heap := fun k q h => by simp at h
  have hD : va_D (lA s) [] := ⟨fun i j p q h => by simp at h, fun k q h => by simp at h⟩
  have hS : va_S (lA s) s.heap s.heap [] := va_S.rf
  have hrc : 600000 ≤ room_1.cells := by decide
  have hrs : 7000000 ≤ room_1.slots := by decide
  rw [lg_entry_eq]
  have hl := lv_entry (n := 7) [Value.ref b] (Nat.le_of_ble_eq_true rfl)
  have hl : lv_has _ 7 [(0, .ref b)] := hl
  refine (fun (key : ∀ ls : Array Slot, lv_has ls 7 [(0, .ref b)] → W p l e _ s m _ below meth c s.heap [] 0 0 _ (F0 m 0 ls [])) => key _ hl) ?_
  clear hl
  intro ls hl
  refine va_new (ci := 3) (fs := [.null, .null, .null, .null, .null, .null, .null, .null, .int 0, .int 0]) (C := RX2) (T := TX2) (N := 10) hx hb hts inlX2 tyX2 tyX2_ok hown (hts (.classLink RL 8 RX2) (by decide +kernel)) (hts (.instantiable RX2 10) (by decide +kernel)) (hts (.initialized RX2) (by decide +kernel)) hK hP hD hS hA rfl (fun j hj => by rcases (show j = 0 ∨ j = 1 ∨ j = 2 ∨ j = 3 ∨ j = 4 ∨ j = 5 ∨ j = 6 ∨ j = 7 ∨ j = 8 ∨ j = 9 by omega) with rfl | rfl | rfl | rfl | rfl | rfl | rfl | rfl | rfl | rfl <;> rfl) (by omega) (by omega) dL_law_0 (fun q0 H hP hD hS => ?_)
  have hP : va_P D vwCl [(q0, .inr (3, [.null, .null, .null, .null, .null, .null, .null, .null, .int 0, .int 0]))] H := hP
  have hD : va_D (lA s) [(q0, .inr (3, [.null, .null, .null, .null, .null, .null, .null, .null, .int 0, .int 0]))] := hD
  refine lv_dup hx hb dL_law_3 rfl ?_
  refine wcCN (wN := fun u : OA × OS => oW Y u.1 u.2 ++ kW Y (oKp u.1) (fun _ => none)) (As := []) (rest := [.ref q0]) ⟨hx, hb, hml, hown, hts⟩ (c_X2_init l D Y q0 _) ⟨callB_of 0 hts gL_law_X2_init rfl rfl rfl (hts (.initialized RX2) (by decide +kernel)) (hts (.methodLink RL 15 yX2_init) (by decide +kernel)) hdl_X2_init ⟨Nat.le_of_ble_eq_true rfl, Nat.le_of_ble_eq_true rfl⟩, rfl, hts (.instanceMethod yX2_init) (by decide +kernel)⟩ hP hD hK hNe hS hA rfl hl.1 rfl (Nat.le_of_ble_eq_true rfl) dL_law_4 ⟨by omega, by omega⟩ (frSelf hD hS hA) (fun u H locs hu hP2 hD2 hS => ?_)
  obtain ⟨ad, t⟩ := u
  obtain ⟨ho, t0, hf0, ha0⟩ := hu
  have ho : oO ad = q0 := ho
  subst ho
  have hP : va_P D vwCl (oW Y ad t ++ kW Y (oKp ad) (fun _ => none)) H := hP2
  have hD : va_D (lA s) (oW Y ad t ++ kW Y (oKp ad) (fun _ => none)) := hD2
  refine va_forget hS.2.2 ?_
  replace hS := nS hS
  refine lv_astore_n (lv' := [(1, .ref (oO ad)), (0, .ref b)]) hx hb dL_law_7 rfl hl (by decide) rfl (fun ls hl => ?_)
  refine va_new (ci := 4) (fs := [.int 0, .int 0, .int 0, .int 0, .null, .null, .null, .null, .null, .null, .null, .null, .null, .null, .null, .null, .null, .null, .null]) (C := RX3) (T := TX3) (N := 19) hx hb hts inlX3 tyX3 tyX3_ok hown (hts (.classLink RL 16 RX3) (by decide +kernel)) (hts (.instantiable RX3 19) (by decide +kernel)) (hts (.initialized RX3) (by decide +kernel)) hK hP hD hS hA rfl (fun j hj => by rcases (show j = 0 ∨ j = 1 ∨ j = 2 ∨ j = 3 ∨ j = 4 ∨ j = 5 ∨ j = 6 ∨ j = 7 ∨ j = 8 ∨ j = 9 ∨ j = 10 ∨ j = 11 ∨ j = 12 ∨ j = 13 ∨ j = 14 ∨ j = 15 ∨ j = 16 ∨ j = 17 ∨ j = 18 by omega) with rfl | rfl | rfl | rfl | rfl | rfl | rfl | rfl | rfl | rfl | rfl | rfl | rfl | rfl | rfl | rfl | rfl | rfl | rfl <;> rfl) (by omega) (by omega) dL_law_8 (fun q1 H hP hD hS => ?_)
  obtain ⟨hP, hD⟩ : va_P D vwCl ([(q1, .inr (4, [.int 0, .int 0, .int 0, .int 0, .null, .null, .null, .null, .null, .null, .null, .null, .null, .null, .null, .null, .null, .null, .null]))] ++ (oW Y ad t ++ kW Y (oKp ad) (fun _ => none))) H ∧ va_D (lA s) ([(q1, .inr (4, [.int 0, .int 0, .int 0, .int 0, .null, .null, .null, .null, .null, .null, .null, .null, .null, .null, .null, .null, .null, .null, .null]))] ++ (oW Y ad t ++ kW Y (oKp ad) (fun _ => none))) := va_PD_perm ⟨hP, hD⟩ List.perm_append_comm
  refine lv_dup hx hb dL_law_11 rfl ?_
  refine wcCW (wN := fun u : MA × MS => mW Y u.1 u.2 ++ (oW Y ad t ++ kW Y (oKp ad) (fun _ => none))) (As := []) (rest := [.ref q1]) ⟨hx, hb, hml, hown, hts⟩ (c_X3_init l D Y q1 _) ⟨callB_of 0 hts gL_law_X3_init rfl rfl rfl (hts (.initialized RX3) (by decide +kernel)) (hts (.methodLink RL 18 yX3_init) (by decide +kernel)) hdl_X3_init ⟨Nat.le_of_ble_eq_true rfl, Nat.le_of_ble_eq_true rfl⟩, rfl, hts (.instanceMethod yX3_init) (by decide +kernel)⟩ (oPR hP) (va_D_left hD) hK hS hA rfl hl.1 rfl (Nat.le_of_ble_eq_true rfl) dL_law_12 ⟨by omega, by omega⟩ (fun u H1 hk h1 h2 => frBlock hP hD hk (va_A_in (va_D_left hD) hS hA) h1 h2) (fun u H locs hu hP3 hD3 hS => ?_)
  obtain ⟨ma, S⟩ := u
  obtain ⟨hm, hm0⟩ := hu
  have hm : mO ma = q1 := hm
  have hm0 : S = m0S := hm0
  subst hm
  subst hm0
  have hP : va_P D vwCl (mW Y ma m0S ++ (oW Y ad t ++ kW Y (oKp ad) (fun _ => none))) H := hP3
  have hD : va_D (lA s) (mW Y ma m0S ++ (oW Y ad t ++ kW Y (oKp ad) (fun _ => none))) := hD3
  refine va_forget hS.2.2 ?_
  replace hS := nS hS
  refine lv_astore_n (lv' := [(2, .ref (mO ma)), (1, .ref (oO ad)), (0, .ref b)]) hx hb dL_law_15 rfl hl (by decide) rfl (fun ls hl => ?_)
  refine lv_iconst (v := 1) hx hb dL_law_16 (by decide) ?_
  refine nwJ hx hb (hts (.arrayClass .long) (by decide +kernel)) hK hP hD hS hA 1 rfl (by omega) (by omega) (by omega) dL_law_17 (fun ou H hP hD hS => ?_)
  refine lv_astore_n (lv' := [(3, .ref ou), (2, .ref (mO ma)), (1, .ref (oO ad)), (0, .ref b)]) hx hb dL_law_19 rfl hl (by decide) rfl (fun ls hl => ?_)
  refine lv_iconst (v := 0) hx hb dL_law_20 (by decide) ?_
  refine lv_istore (lv' := [(4, .int 0), (3, .ref ou), (2, .ref (mO ma)), (1, .ref (oO ad)), (0, .ref b)]) hx hb dL_law_21 hl (by decide) rfl (fun ls hl => ?_)
  obtain ⟨hrel, hpsi⟩ := rel0 hf0 ha0
  obtain ⟨hP, hD⟩ : va_P D vwCl (lwW Y ad t (fun _ => none) ma m0S ou (fun _ => 0)) H ∧ va_D (lA s) (lwW Y ad t (fun _ => none) ma m0S ou (fun _ => 0)) := va_PD_perm ⟨hP, hD⟩ (pS _ _ _ _)
  have hl : lv_has ls 7 (lLv b 0 ad ma ou) := ⟨hl.1, hl.2.1, fun q hq => hl.2.2 q (by
    simp only [List.mem_cons, List.not_mem_nil, or_false, Nat.mul_zero, nI_0] at hq ⊢
    rcases hq with h | h | h | h | h
    · exact Or.inl h
    · exact Or.inr (Or.inr (Or.inr (Or.inr h)))
    · exact Or.inr (Or.inr (Or.inr (Or.inl h)))
    · exact Or.inr (Or.inr (Or.inl h))
    · exact Or.inr (Or.inl h))⟩
  refine W.widen (k := lCe 0) (n := lSl 0 t (fun _ => none)) (by unfold lCe; omega) (by unfold lSl; omega) ?_
  exact lw_loop hT C hr hlocks (L + 1) 0 (by omega) (by omega) a0S ad t (fun _ => none) ma m0S ou (fun _ => 0) H ls ⟨hrel, hP, hD, hS⟩ hl
