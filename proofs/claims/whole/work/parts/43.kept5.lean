/-! restore -/
theorem frIn {A : Nat → Prop} {D : va_G} {S : Type} {rf wf : S → va_W} {w rcw wr : va_W} {H0 H : Heap} {locs : List Loc} (hP : va_P D vwCl (w ++ wr) H) (hD : va_D A (w ++ wr)) (hS : va_S A H0 H locs) (hA : ∀ q, H0.size ≤ q → A q) (is : List Nat) (hs : is.map (fun i => w[i]?) = rcw.map some)
    (fr : ∀ (u : S) (H1 : Heap), (∀ q : Nat, q < H.size → ¬ va_A rcw H.size q → H1[q]? = H[q]?) → va_P D vwCl (rf u) H1 → va_D (va_A rcw H.size) (rf u) → va_P D vwCl (wf u) H1 ∧ va_D (va_A w H.size) (wf u)) : ∀ (u : S) (H1 : Heap), (∀ q : Nat, q < H.size → ¬ va_A rcw H.size q → H1[q]? = H[q]?) → va_P D vwCl (rf u) H1 → va_D (va_A rcw H.size) (rf u) → va_P D vwCl (wf u ++ wr) H1 ∧ va_D A (wf u ++ wr) := by
  intro u H1 hk h1 h2
  obtain ⟨a1, a2⟩ := fr u H1 hk h1 h2
  refine frBlock hP hD (fun q hq hn => hk q hq (fun h => hn ?_)) (va_A_in (va_D_left hD) hS hA) a1 a2
  rcases h with ⟨k, e, h⟩ | h
  · have h9 : some (q, e) ∈ rcw.map some := List.mem_map.mpr ⟨_, List.mem_of_getElem? h, rfl⟩
    rw [← hs, List.mem_map] at h9
    obtain ⟨i, _, hi⟩ := h9
    exact Or.inl ⟨i, e, hi⟩
  · exact Or.inr h
theorem aSelf {A : Nat → Prop} {w wr : va_W} {n : Nat} (hD : va_D A (w ++ wr)) : va_D (va_A w n) w := (va_D_left hD).self
def rCut (r : RV) (k : Nat) : RV := rSetZ r (if rZ r ≤ k then rZ r else k)
def rsF (t : OS) (x : Int32) (i k0 : Nat) (v : CS) : OS := oSetCnt (oPut (oPut (oPut (oPut (oPut (oPutC (oPut (oSetSv t (nu t x)) 5 (rCut (oR t 5) k0)) v) 0 (rCut (oR t 0) i)) 1 (rCut (oR t 1) i)) 2 (rCut (oR t 2) i)) 3 (rCut (oR t 3) i)) 4 (rCut (oR t 4) i)) x
def rsP (t : OS) (kb : Option (CA × CS)) (x : Int32) (k0 : Nat) (ans : Int32) (u : OS) : Prop := (pKnown t x = false ∧ ans = -1 ∧ u = t) ∨ (pKnown t x = true ∧ kb = none ∧ ans = -3 ∧ u = t) ∨ (pKnown t x = true ∧ ∃ q v, kb = some q ∧ cBecP (oCt t) q.2 v ∧ ans = x ∧ u = rsF t x x.toNatClampNeg k0 v)
theorem hdX2_keptBy : yX2_keptBy.cls = RX2 ∧ yX2_keptBy.cls ≠ "java/lang/invoke/MethodHandle" ∧ yX2_keptBy.cls ≠ "java/lang/invoke/VarHandle" ∧ (parseMethodDescriptor yX2_keptBy.desc).map (fun d => d.parameters.length) = some 1 := by decide +kernel
section RQ
variable {p : Program} {l : Launch} {e : Env} {R : Room} {s : State} {m : MethodId} {args : Array Value} {below : List Frame} {meth : Method} {c : Code} {H : Heap} {locs : List Loc} {cells slots : Nat} {Q : State → Prop}
variable {y : MethodName} {bytes cc : ByteArray} {maxL nL n index : Nat} {ret : Option FieldType} {ws : List Cond} {rm : Room} {Ts : List Cond} {own C : String} {b : Addr} {As rest st0 : List Value} {pc : Nat} {ls : Array Slot} {D : va_G} {Y : Nat → ClassId} {wW : va_W}
theorem rcQ {post : Option Nat → Prop} (S : CallFix p m c cc nL s args Ts own) (hM : Met l y ws rm (rdPc D Y (.ref b :: As) wW) (va_Sq post) 0 0 (fun _ => False)) (cw : CallW R s args own C index y bytes maxL ret ws rm 0 0 n) (hP : va_P D vwCl wW H) (hK : va_K D vwCl (tyA Y) s) (q0 ci : Nat) {T : u_T} {N : Nat} {fs : List Value} (he : wW[q0]? = some (b, .inr (ci, fs))) (hc : vwCl[ci]? = some (C, T, N)) (hn : As.length = n) (hsize : ls.size = nL) (hstack : st0 = As.reverse ++ .ref b :: rest) (hW : (rest.map fun v => v.category).sum ≤ 8) (hdg : decode cc pc = .ok (.invokevirtual index, 3)) (hf : cells ≤ R.cells ∧ slots ≤ R.slots)
    (kk : ∀ r : Option Nat, post r → W p l e R s m args below meth c H locs cells slots Q (F0 m (pc + 3) ls (va_rf r :: rest))) : W p l e R s m args below meth c H locs cells slots Q (F0 m pc ls st0) :=
  va_csq (va_runV (As := As) (rest := rest) S hM cw ⟨rdPc_blind, va_recv hK hP hc he, fun U hU hWm => ⟨rfl, by rw [hU]; exact hP, va_K.moved hWm.alike hK⟩⟩ rfl hn hsize hstack (lv_room hW) hdg hf).run kk
end RQ
set_option maxHeartbeats 4000000 in
set_option maxRecDepth 100000 in
theorem c_X2_restore (l : Launch) (D : va_G) (Y : Nat → ClassId) (ad : OA) (t : OS) (g : Nat → Option Nat) (kb : Option (CA × CS)) (wr : va_W) (x : Int32) (k0 sz : Nat) (hok : oOK t) (hg6 : cGd (oCt t)) (hkg : ∀ q, kb = some q → cGd q.2) (hkp : pKnown t x = true → gKept t g x = kb.map (fun q => cO q.1)) (hst : kb ≠ none → sta t x = nI k0) (hk0 : k0 < 2 ^ 31) : Met l yX2_restore wsX2_restore ({ frames := 5, cells := 6, slots := cBecC (oCt t) (kS kb), locals := 125 }) (wrPc D Y [.ref (oO ad), .int x] (oW Y ad t ++ (kW Y (oKp ad) g ++ (kB Y kb ++ wr))) sz) (va_Qi (fun (ans : Int32) (u : OS) => rsP t kb x k0 ans u) (wrB D (va_A (oW Y ad t ++ (kW Y (oKp ad) g ++ (kB Y kb ++ wr))) sz) (fun u : OS => oW Y ad u ++ (kW Y (oKp ad) g ++ (kB Y kb ++ wr)))) (va_A (oW Y ad t ++ (kW Y (oKp ad) g ++ (kB Y kb ++ wr))) sz)) 6 (cBecC (oCt t) (kS kb)) (va_A (oW Y ad t ++ (kW Y (oKp ad) g ++ (kB Y kb ++ wr))) sz) := by
  refine wrOf (Qc := fun A => va_Qi (fun (ans : Int32) (u : OS) => rsP t kb x k0 ans u) (wrB D A (fun u : OS => oW Y ad u ++ (kW Y (oKp ad) g ++ (kB Y kb ++ wr)))) A) (cc := cX2_restore) (maxL := 3) (ret := some .int) (own := RX2) (by decide) rfl rfl (Nat.le_of_ble_eq_true rfl) ?_
  intro p e s m below meth c ls A hx hb hr hts hown hml hlocks hin hA hP hD hS hK hl
  have iwX2 : ∀ w ∈ u_ws RX2 TX2 10, w ∈ wsX2_restore := fun _ h => List.mem_cons_of_mem _ (List.mem_append_left _ (List.mem_append_left _ (List.mem_append_right _ h)))
  have hl : lv_has ls 3 [(0, .ref (oO ad)), (1, .int x)] := hl
  refine lv_aload_n hx hb dX2_restore_0 rfl (lv_at hl 0 rfl) ?_
  refine lv_iload_n hx hb dX2_restore_1 rfl (lv_at hl 1 rfl) ?_
  refine rcI (As := [.int x]) (rest := []) ⟨hx, hb, hml, hown, hts⟩ (c_X2_known l D Y ad t x hok) (cwV 1 hts gX2_restore_X2_known rfl rfl rfl hdX2_known ⟨Nat.le_of_ble_eq_true rfl, Nat.le_of_ble_eq_true rfl⟩) (oPR hP) hK 0 3 rfl rfl rfl hl.1 rfl (Nat.le_of_ble_eq_true rfl) dX2_restore_2 ⟨(by dsimp only; omega), (by dsimp only; omega)⟩ (fun r1 hr1 => ?_)
  replace hr1 : r1 = bI (pKnown t x) := hr1
  cases b2 : pKnown t x
  · replace hr1 : r1 = 0 := by rw [hr1, b2]; rfl
    subst hr1
    refine lv_if_ne (tgt := 10) hx hb dX2_restore_5 (by decide) (fun c3 => absurd rfl c3) (fun _ => ?_)
    refine lv_iconst (v := -1) hx hb dX2_restore_8 (by decide) ?_
    refine W.widen (k := 6) (n := cBecC (oCt t) (kS kb)) (by omega) (by omega) ?_
    exact weI (wf := fun u : OS => oW Y ad u ++ (kW Y (oKp ad) g ++ (kB Y kb ++ wr))) t hx hb hr hlocks hP hD hS dX2_restore_9 (Or.inl ⟨b2, rfl, rfl⟩)
  · replace hr1 : r1 = 1 := by rw [hr1, b2]; rfl
    subst hr1
    refine lv_if_ne (tgt := 10) hx hb dX2_restore_5 (by decide) (fun _ => ?_) (fun c3 => absurd c3 (by decide))
    have hx0 : ¬ x < 0 := by
      intro h
      rw [pKnown, decide_eq_true h] at b2
      simp at b2
    refine lv_aload_n hx hb dX2_restore_10 rfl (lv_at hl 0 rfl) ?_
    refine lv_iload_n hx hb dX2_restore_11 rfl (lv_at hl 1 rfl) ?_
    refine rcQ (As := [.int x]) (rest := []) ⟨hx, hb, hml, hown, hts⟩ (c_X2_keptBy l D Y ad t g x hok) (cwV 1 hts gX2_restore_X2_keptBy rfl rfl rfl hdX2_keptBy ⟨Nat.le_of_ble_eq_true rfl, Nat.le_of_ble_eq_true rfl⟩) (va_P_mem (fun q h => by rcases List.mem_append.mp h with h | h <;> simp only [List.mem_append, h, true_or, or_true]) hP) hK 0 3 rfl rfl rfl hl.1 rfl (Nat.le_of_ble_eq_true rfl) dX2_restore_12 ⟨(by dsimp only; omega), (by dsimp only; omega)⟩ (fun r2 hr2 => ?_)
    have hr2 : r2 = kb.map (fun q => cO q.1) := hr2.trans (hkp b2)
    subst hr2
    cases kb with
    | none =>
      refine lv_astore_nN (lv' := [(2, .null), (0, .ref (oO ad)), (1, .int x)]) hx hb dX2_restore_15 rfl hl (by decide) rfl (fun ls hl => ?_)
      refine lv_aload_nN hx hb dX2_restore_16 rfl (lv_at hl 0 rfl) ?_
      refine lv_ifnonnullN hx hb dX2_restore_17 ?_
      refine lv_bipush (v := -3) hx hb dX2_restore_20 (by decide) ?_
      refine W.widen (k := 6) (n := cBecC (oCt t) (kS none)) (by omega) (by omega) ?_
      exact weI (wf := fun u : OS => oW Y ad u ++ (kW Y (oKp ad) g ++ (kB Y none ++ wr))) t hx hb hr hlocks hP hD hS dX2_restore_22 (Or.inr (Or.inl ⟨b2, rfl, rfl, rfl⟩))
    | some q =>
      obtain ⟨i, hi, hxi⟩ := nI_of hx0
      subst hxi
      have hci : (nI i).toNatClampNeg = i := nI_clamp hi
      refine lv_astore_n (lv' := [(2, .ref (cO q.1)), (0, .ref (oO ad)), (1, .int (nI i))]) hx hb dX2_restore_15 rfl hl (by decide) rfl (fun ls hl => ?_)
      refine lv_aload_n hx hb dX2_restore_16 rfl (lv_at hl 0 rfl) ?_
      refine lv_ifnonnull (tgt := 23) hx hb dX2_restore_17 (by decide) ?_
      refine lv_aload_n hx hb dX2_restore_23 rfl (lv_at hl 1 rfl) ?_
      refine lv_aload_n hx hb dX2_restore_24 rfl (lv_at hl 1 rfl) ?_
      refine va_get (D := D) (ci := 3) (v := .ref (oH ad 1)) (C := RX2) (T := TX2) (N := 10) hx hb hts iwX2 hown hK hP 0 rfl rfl 1 (by decide) (hts (.fieldLink RX2 16 "ObjectRows" "numbers" "LObjectRows$Row;") (by decide +kernel)) (fun _ h9 => h9) rfl dX2_restore_25 ?_
      refine lv_iload_n hx hb dX2_restore_28 rfl (lv_at hl 2 rfl) ?_
      refine rcI (As := [.int (nI i)]) (rest := [.ref (oO ad)]) ⟨hx, hb, hml, hown, hts⟩ (c_X1_at l D Y (oH ad 1) (oR t 1) (nI i) (hok 1 (by decide))) (cwV 1 hts gX2_restore_X1_at rfl rfl rfl hdX1_at ⟨Nat.le_of_ble_eq_true rfl, Nat.le_of_ble_eq_true rfl⟩) (oWr1 (oPR hP)) hK 0 2 rfl rfl rfl hl.1 rfl (Nat.le_of_ble_eq_true rfl) dX2_restore_29 ⟨(by dsimp only; omega), (by dsimp only; omega)⟩ (fun r3 hr3 => ?_)
      obtain rfl : r3 = nu t (nI i) := hr3
      refine oFsvR hx hb hts iwX2 hown hK hP hD hS (hts (.fieldLink RX2 54 "ObjectRows" "saves" "I") (by decide +kernel)) dX2_restore_32 (fun H locs hP hD hS => ?_)
      refine lv_aload_n hx hb dX2_restore_35 rfl (lv_at hl 1 rfl) ?_
      refine va_get (D := D) (ci := 3) (v := .ref (oH ad 5)) (C := RX2) (T := TX2) (N := 10) hx hb hts iwX2 hown hK hP 0 rfl rfl 5 (by decide) (hts (.fieldLink RX2 28 "ObjectRows" "bytes" "LObjectRows$Row;") (by decide +kernel)) (fun _ h9 => h9) rfl dX2_restore_36 ?_
      refine lv_aload_n hx hb dX2_restore_39 rfl (lv_at hl 1 rfl) ?_
      refine va_get (D := D) (ci := 3) (v := .ref (oH ad 3)) (C := RX2) (T := TX2) (N := 10) hx hb hts iwX2 hown hK hP 0 rfl rfl 3 (by decide) (hts (.fieldLink RX2 22 "ObjectRows" "starts" "LObjectRows$Row;") (by decide +kernel)) (fun _ h9 => h9) rfl dX2_restore_40 ?_
      refine lv_iload_n hx hb dX2_restore_43 rfl (lv_at hl 2 rfl) ?_
      refine rcI (As := [.int (nI i)]) (rest := [.ref (oH ad 5)]) ⟨hx, hb, hml, hown, hts⟩ (c_X1_at l D Y (oH ad 3) (oR t 3) (nI i) (hok 3 (by decide))) (cwV 1 hts gX2_restore_X1_at rfl rfl rfl hdX1_at ⟨Nat.le_of_ble_eq_true rfl, Nat.le_of_ble_eq_true rfl⟩) (oWr3 (t := oSetSv t (nu t (nI i))) (oPR hP)) hK 0 2 rfl rfl rfl hl.1 rfl (Nat.le_of_ble_eq_true rfl) dX2_restore_44 ⟨(by dsimp only; omega), (by dsimp only; omega)⟩ (fun r4 hr4 => ?_)
      obtain rfl : r4 = sta t (nI i) := hr4
      refine lv_toE (hst (by simp)) ?_
      refine wcV (wN := fun u : RV => oW Y ad (oPut (oSetSv t (nu t (nI i))) 5 u) ++ (kW Y (oKp ad) g ++ (cW Y q.1 q.2 ++ wr))) (As := [.int (nI k0)]) (rest := []) ⟨hx, hb, hml, hown, hts⟩ (c_X1_cut l D Y (oH ad 5) (oR t 5) k0 _ (hok 5 (by decide)) hk0) (cwV 1 hts gX2_restore_X1_cut rfl rfl rfl hdX1_cut ⟨Nat.le_of_ble_eq_true rfl, Nat.le_of_ble_eq_true rfl⟩) (oWr5 (t := oSetSv t (nu t (nI i))) (oPR hP)) (oDr5 (t := oSetSv t (nu t (nI i))) (va_D_left hD)) hK hS hA 0 2 rfl rfl rfl hl.1 rfl (Nat.le_of_ble_eq_true rfl) dX2_restore_47 ⟨by dsimp only; omega, by dsimp only; omega⟩ (frIn hP hD hS hA [12, 13] rfl (oFr5 (t := oSetSv t (nu t (nI i))) (H0 := _) (oPR hP) (aSelf hD) va_S.rf (fun _ h => Or.inr h))) (fun c5 H locs hc5 hP hD hS => ?_)
      obtain rfl : c5 = rCut (oR t 5) k0 := hc5
      refine lv_aload_n hx hb dX2_restore_50 rfl (lv_at hl 1 rfl) ?_
      refine va_get (D := D) (ci := 3) (v := .ref (oNow ad)) (C := RX2) (T := TX2) (N := 10) hx hb hts iwX2 hown hK hP 0 rfl rfl 6 (by decide) (hts (.fieldLink RX2 34 "ObjectRows" "now" "LObjectRows$Changing;") (by decide +kernel)) (fun _ h9 => h9) rfl dX2_restore_51 ?_
      refine lv_aload_n hx hb dX2_restore_54 rfl (lv_at hl 0 rfl) ?_
      have hB := kSplit (T := oPut (oSetSv t (nu t (nI i))) 5 (rCut (oR t 5) k0)) ⟨hP, hD⟩
      have hg7 : cGd (oCt (oPut (oSetSv t (nu t (nI i))) 5 (rCut (oR t 5) k0))) := by
        intro k hk
        show rOK (if 6 + k = 5 then _ else _) ∧ rN (if 6 + k = 5 then _ else _) ≤ _
        rw [if_neg (by omega)]
        exact hg6 k hk
      refine wcV (wN := fun u : CS => (cW Y (oC ad) u ++ cW Y q.1 q.2) ++ (oRst Y ad (oPut (oSetSv t (nu t (nI i))) 5 (rCut (oR t 5) k0)) ++ (kW Y (oKp ad) g ++ wr))) (As := [.ref (cO q.1)]) (rest := []) ⟨hx, hb, hml, hown, hts⟩ (c_X0_become l D Y (oC ad) q.1 (oCt (oPut (oSetSv t (nu t (nI i))) 5 (rCut (oR t 5) k0))) q.2 _ hg7 (hkg q rfl)) (cwV 1 hts gX2_restore_X0_become rfl rfl rfl hdX0_become ⟨Nat.le_of_ble_eq_true rfl, Nat.le_of_ble_eq_true rfl⟩) (oPR hB.1) (va_D_left hB.2) hK hS hA 0 1 rfl rfl rfl hl.1 rfl (Nat.le_of_ble_eq_true rfl) dX2_restore_55 ⟨by dsimp only; omega, by show 0 + cBecC (oCt t) q.2 ≤ cBecC (oCt t) q.2; omega⟩ (fun u H1 hk h1 h2 => frBlock hB.1 hB.2 hk (va_A_in (va_D_left hB.2) hS hA) h1 h2) (fun v H locs hv hP hD hS => ?_)
      have hcc : cBecC (oCt (oPut (oSetSv t (nu t (nI i))) 5 (rCut (oR t 5) k0))) q.2 = cBecC (oCt t) (kS (some q)) := rfl
      have hJ := kJoin (T := oPut (oSetSv t (nu t (nI i))) 5 (rCut (oR t 5) k0)) v ⟨hP, hD⟩
      clear hP hD hB
      obtain ⟨hP, hD⟩ := hJ
      refine lv_aload_n hx hb dX2_restore_58 rfl (lv_at hl 1 rfl) ?_
      refine va_get (D := D) (ci := 3) (v := .ref (oH ad 0)) (C := RX2) (T := TX2) (N := 10) hx hb hts iwX2 hown hK hP 0 rfl rfl 0 (by decide) (hts (.fieldLink RX2 12 "ObjectRows" "kinds" "LObjectRows$Row;") (by decide +kernel)) (fun _ h9 => h9) rfl dX2_restore_59 ?_
      refine lv_iload_n hx hb dX2_restore_62 rfl (lv_at hl 2 rfl) ?_
      refine wcV (wN := fun u : RV => oW Y ad (oPut (oPutC (oPut (oSetSv t (nu t (nI i))) 5 (rCut (oR t 5) k0)) v) 0 u) ++ (kW Y (oKp ad) g ++ (cW Y q.1 q.2 ++ wr))) (As := [.int (nI i)]) (rest := []) ⟨hx, hb, hml, hown, hts⟩ (c_X1_cut l D Y (oH ad 0) (oR t 0) i _ (hok 0 (by decide)) hi) (cwV 1 hts gX2_restore_X1_cut rfl rfl rfl hdX1_cut ⟨Nat.le_of_ble_eq_true rfl, Nat.le_of_ble_eq_true rfl⟩) (oWr0 (t := oPutC (oPut (oSetSv t (nu t (nI i))) 5 (rCut (oR t 5) k0)) v) (oPR hP)) (oDr0 (t := oPutC (oPut (oSetSv t (nu t (nI i))) 5 (rCut (oR t 5) k0)) v) (va_D_left hD)) hK hS hA 0 2 rfl rfl rfl hl.1 rfl (Nat.le_of_ble_eq_true rfl) dX2_restore_63 ⟨by dsimp only; omega, by dsimp only; omega⟩ (frIn hP hD hS hA [2, 3] rfl (oFr0 (t := oPutC (oPut (oSetSv t (nu t (nI i))) 5 (rCut (oR t 5) k0)) v) (H0 := _) (oPR hP) (aSelf hD) va_S.rf (fun _ h => Or.inr h))) (fun d0 H locs hd0 hP hD hS => ?_)
      obtain rfl : d0 = rCut (oR t 0) i := hd0
      refine lv_aload_n hx hb dX2_restore_66 rfl (lv_at hl 1 rfl) ?_
      refine va_get (D := D) (ci := 3) (v := .ref (oH ad 1)) (C := RX2) (T := TX2) (N := 10) hx hb hts iwX2 hown hK hP 0 rfl rfl 1 (by decide) (hts (.fieldLink RX2 16 "ObjectRows" "numbers" "LObjectRows$Row;") (by decide +kernel)) (fun _ h9 => h9) rfl dX2_restore_67 ?_
      refine lv_iload_n hx hb dX2_restore_70 rfl (lv_at hl 2 rfl) ?_
      refine wcV (wN := fun u : RV => oW Y ad (oPut (oPut (oPutC (oPut (oSetSv t (nu t (nI i))) 5 (rCut (oR t 5) k0)) v) 0 (rCut (oR t 0) i)) 1 u) ++ (kW Y (oKp ad) g ++ (cW Y q.1 q.2 ++ wr))) (As := [.int (nI i)]) (rest := []) ⟨hx, hb, hml, hown, hts⟩ (c_X1_cut l D Y (oH ad 1) (oR t 1) i _ (hok 1 (by decide)) hi) (cwV 1 hts gX2_restore_X1_cut rfl rfl rfl hdX1_cut ⟨Nat.le_of_ble_eq_true rfl, Nat.le_of_ble_eq_true rfl⟩) (oWr1 (t := oPut (oPutC (oPut (oSetSv t (nu t (nI i))) 5 (rCut (oR t 5) k0)) v) 0 (rCut (oR t 0) i)) (oPR hP)) (oDr1 (t := oPut (oPutC (oPut (oSetSv t (nu t (nI i))) 5 (rCut (oR t 5) k0)) v) 0 (rCut (oR t 0) i)) (va_D_left hD)) hK hS hA 0 2 rfl rfl rfl hl.1 rfl (Nat.le_of_ble_eq_true rfl) dX2_restore_71 ⟨by dsimp only; omega, by dsimp only; omega⟩ (frIn hP hD hS hA [4, 5] rfl (oFr1 (t := oPut (oPutC (oPut (oSetSv t (nu t (nI i))) 5 (rCut (oR t 5) k0)) v) 0 (rCut (oR t 0) i)) (H0 := _) (oPR hP) (aSelf hD) va_S.rf (fun _ h => Or.inr h))) (fun d1 H locs hd1 hP hD hS => ?_)
      obtain rfl : d1 = rCut (oR t 1) i := hd1
      refine lv_aload_n hx hb dX2_restore_74 rfl (lv_at hl 1 rfl) ?_
      refine va_get (D := D) (ci := 3) (v := .ref (oH ad 2)) (C := RX2) (T := TX2) (N := 10) hx hb hts iwX2 hown hK hP 0 rfl rfl 2 (by decide) (hts (.fieldLink RX2 19 "ObjectRows" "owners" "LObjectRows$Row;") (by decide +kernel)) (fun _ h9 => h9) rfl dX2_restore_75 ?_
      refine lv_iload_n hx hb dX2_restore_78 rfl (lv_at hl 2 rfl) ?_
      refine wcV (wN := fun u : RV => oW Y ad (oPut (oPut (oPut (oPutC (oPut (oSetSv t (nu t (nI i))) 5 (rCut (oR t 5) k0)) v) 0 (rCut (oR t 0) i)) 1 (rCut (oR t 1) i)) 2 u) ++ (kW Y (oKp ad) g ++ (cW Y q.1 q.2 ++ wr))) (As := [.int (nI i)]) (rest := []) ⟨hx, hb, hml, hown, hts⟩ (c_X1_cut l D Y (oH ad 2) (oR t 2) i _ (hok 2 (by decide)) hi) (cwV 1 hts gX2_restore_X1_cut rfl rfl rfl hdX1_cut ⟨Nat.le_of_ble_eq_true rfl, Nat.le_of_ble_eq_true rfl⟩) (oWr2 (t := oPut (oPut (oPutC (oPut (oSetSv t (nu t (nI i))) 5 (rCut (oR t 5) k0)) v) 0 (rCut (oR t 0) i)) 1 (rCut (oR t 1) i)) (oPR hP)) (oDr2 (t := oPut (oPut (oPutC (oPut (oSetSv t (nu t (nI i))) 5 (rCut (oR t 5) k0)) v) 0 (rCut (oR t 0) i)) 1 (rCut (oR t 1) i)) (va_D_left hD)) hK hS hA 0 2 rfl rfl rfl hl.1 rfl (Nat.le_of_ble_eq_true rfl) dX2_restore_79 ⟨by dsimp only; omega, by dsimp only; omega⟩ (frIn hP hD hS hA [6, 7] rfl (oFr2 (t := oPut (oPut (oPutC (oPut (oSetSv t (nu t (nI i))) 5 (rCut (oR t 5) k0)) v) 0 (rCut (oR t 0) i)) 1 (rCut (oR t 1) i)) (H0 := _) (oPR hP) (aSelf hD) va_S.rf (fun _ h => Or.inr h))) (fun d2 H locs hd2 hP hD hS => ?_)
      obtain rfl : d2 = rCut (oR t 2) i := hd2
      refine lv_aload_n hx hb dX2_restore_82 rfl (lv_at hl 1 rfl) ?_
      refine va_get (D := D) (ci := 3) (v := .ref (oH ad 3)) (C := RX2) (T := TX2) (N := 10) hx hb hts iwX2 hown hK hP 0 rfl rfl 3 (by decide) (hts (.fieldLink RX2 22 "ObjectRows" "starts" "LObjectRows$Row;") (by decide +kernel)) (fun _ h9 => h9) rfl dX2_restore_83 ?_
      refine lv_iload_n hx hb dX2_restore_86 rfl (lv_at hl 2 rfl) ?_
      refine wcV (wN := fun u : RV => oW Y ad (oPut (oPut (oPut (oPut (oPutC (oPut (oSetSv t (nu t (nI i))) 5 (rCut (oR t 5) k0)) v) 0 (rCut (oR t 0) i)) 1 (rCut (oR t 1) i)) 2 (rCut (oR t 2) i)) 3 u) ++ (kW Y (oKp ad) g ++ (cW Y q.1 q.2 ++ wr))) (As := [.int (nI i)]) (rest := []) ⟨hx, hb, hml, hown, hts⟩ (c_X1_cut l D Y (oH ad 3) (oR t 3) i _ (hok 3 (by decide)) hi) (cwV 1 hts gX2_restore_X1_cut rfl rfl rfl hdX1_cut ⟨Nat.le_of_ble_eq_true rfl, Nat.le_of_ble_eq_true rfl⟩) (oWr3 (t := oPut (oPut (oPut (oPutC (oPut (oSetSv t (nu t (nI i))) 5 (rCut (oR t 5) k0)) v) 0 (rCut (oR t 0) i)) 1 (rCut (oR t 1) i)) 2 (rCut (oR t 2) i)) (oPR hP)) (oDr3 (t := oPut (oPut (oPut (oPutC (oPut (oSetSv t (nu t (nI i))) 5 (rCut (oR t 5) k0)) v) 0 (rCut (oR t 0) i)) 1 (rCut (oR t 1) i)) 2 (rCut (oR t 2) i)) (va_D_left hD)) hK hS hA 0 2 rfl rfl rfl hl.1 rfl (Nat.le_of_ble_eq_true rfl) dX2_restore_87 ⟨by dsimp only; omega, by dsimp only; omega⟩ (frIn hP hD hS hA [8, 9] rfl (oFr3 (t := oPut (oPut (oPut (oPutC (oPut (oSetSv t (nu t (nI i))) 5 (rCut (oR t 5) k0)) v) 0 (rCut (oR t 0) i)) 1 (rCut (oR t 1) i)) 2 (rCut (oR t 2) i)) (H0 := _) (oPR hP) (aSelf hD) va_S.rf (fun _ h => Or.inr h))) (fun d3 H locs hd3 hP hD hS => ?_)
      obtain rfl : d3 = rCut (oR t 3) i := hd3
      refine lv_aload_n hx hb dX2_restore_90 rfl (lv_at hl 1 rfl) ?_
      refine va_get (D := D) (ci := 3) (v := .ref (oH ad 4)) (C := RX2) (T := TX2) (N := 10) hx hb hts iwX2 hown hK hP 0 rfl rfl 4 (by decide) (hts (.fieldLink RX2 25 "ObjectRows" "lengths" "LObjectRows$Row;") (by decide +kernel)) (fun _ h9 => h9) rfl dX2_restore_91 ?_
      refine lv_iload_n hx hb dX2_restore_94 rfl (lv_at hl 2 rfl) ?_
      refine wcV (wN := fun u : RV => oW Y ad (oPut (oPut (oPut (oPut (oPut (oPutC (oPut (oSetSv t (nu t (nI i))) 5 (rCut (oR t 5) k0)) v) 0 (rCut (oR t 0) i)) 1 (rCut (oR t 1) i)) 2 (rCut (oR t 2) i)) 3 (rCut (oR t 3) i)) 4 u) ++ (kW Y (oKp ad) g ++ (cW Y q.1 q.2 ++ wr))) (As := [.int (nI i)]) (rest := []) ⟨hx, hb, hml, hown, hts⟩ (c_X1_cut l D Y (oH ad 4) (oR t 4) i _ (hok 4 (by decide)) hi) (cwV 1 hts gX2_restore_X1_cut rfl rfl rfl hdX1_cut ⟨Nat.le_of_ble_eq_true rfl, Nat.le_of_ble_eq_true rfl⟩) (oWr4 (t := oPut (oPut (oPut (oPut (oPutC (oPut (oSetSv t (nu t (nI i))) 5 (rCut (oR t 5) k0)) v) 0 (rCut (oR t 0) i)) 1 (rCut (oR t 1) i)) 2 (rCut (oR t 2) i)) 3 (rCut (oR t 3) i)) (oPR hP)) (oDr4 (t := oPut (oPut (oPut (oPut (oPutC (oPut (oSetSv t (nu t (nI i))) 5 (rCut (oR t 5) k0)) v) 0 (rCut (oR t 0) i)) 1 (rCut (oR t 1) i)) 2 (rCut (oR t 2) i)) 3 (rCut (oR t 3) i)) (va_D_left hD)) hK hS hA 0 2 rfl rfl rfl hl.1 rfl (Nat.le_of_ble_eq_true rfl) dX2_restore_95 ⟨by dsimp only; omega, by dsimp only; omega⟩ (frIn hP hD hS hA [10, 11] rfl (oFr4 (t := oPut (oPut (oPut (oPut (oPutC (oPut (oSetSv t (nu t (nI i))) 5 (rCut (oR t 5) k0)) v) 0 (rCut (oR t 0) i)) 1 (rCut (oR t 1) i)) 2 (rCut (oR t 2) i)) 3 (rCut (oR t 3) i)) (H0 := _) (oPR hP) (aSelf hD) va_S.rf (fun _ h => Or.inr h))) (fun d4 H locs hd4 hP hD hS => ?_)
      obtain rfl : d4 = rCut (oR t 4) i := hd4
      refine lv_aload_n hx hb dX2_restore_98 rfl (lv_at hl 1 rfl) ?_
      refine lv_iload_n hx hb dX2_restore_99 rfl (lv_at hl 2 rfl) ?_
      refine oFcntR hx hb hts iwX2 hown hK hP hD hS (hts (.fieldLink RX2 50 "ObjectRows" "count" "I") (by decide +kernel)) dX2_restore_100 (fun H locs hP hD hS => ?_)
      refine lv_aload_n hx hb dX2_restore_103 rfl (lv_at hl 1 rfl) ?_
      refine va_get (D := D) (ci := 3) (v := .int (nI i)) (C := RX2) (T := TX2) (N := 10) hx hb hts iwX2 hown hK hP 0 rfl rfl 8 (by decide) (hts (.fieldLink RX2 50 "ObjectRows" "count" "I") (by decide +kernel)) (fun _ h9 => h9) rfl dX2_restore_104 ?_
      refine W.widen (k := 6) (n := cBecC (oCt t) (kS (some q))) (by omega) (by omega) ?_
      exact weI (wf := fun u : OS => oW Y ad u ++ (kW Y (oKp ad) g ++ (kB Y (some q) ++ wr))) (rsF t (nI i) i k0 v) hx hb hr hlocks hP hD hS dX2_restore_107 (Or.inr (Or.inr ⟨b2, q, v, rfl, hv, rfl, by rw [hci]⟩))
