/-! ObjectRows.<init> -/
theorem yK4 {D : va_G} {Y : Nat → ClassId} {cA : ClassId} {s : State} (h : va_K D vwCl (tyA Y ++ [(cA, .object "ObjectRows$Changing")]) s) : cA = Y 4 := by
  obtain ⟨k1, c1, a1, a2, a3, a4⟩ := (h.2 5 (cA, .object "ObjectRows$Changing") rfl).2
  obtain ⟨k2, c2, b1, b2, b3, b4⟩ := (h.2 4 (Y 4, .object "ObjectRows$Changing") rfl).2
  exact Option.some.inj (a4.symm.trans b4)
section INN
variable {p : Program} {l : Launch} {e : Env} {R : Room} {s : State} {m : MethodId} {args : Array Value} {below : List Frame} {meth : Method} {c : Code} {H : Heap} {locs : List Loc} {cells slots : Nat} {Q : State → Prop}
variable {y : MethodName} {bytes cc : ByteArray} {maxL nL n index mc ms : Nat} {ws : List Cond} {rm : Room} {Ts : List Cond} {own host : String} {b : Addr} {As rest st0 : List Value} {pc : Nat} {ls : Array Slot} {D : va_G} {Y : Nat → ClassId} {wc : va_W} {H0 : Heap} {A : Nat → Prop} {S : Type} {wf wN : S → va_W}
theorem wcINn {post : S → Prop} (S0 : CallFix p m c cc nL s args Ts own) (hM : Met l y ws rm (niPc D Y (.ref b :: As) wc H.size) (va_Qv post (wrB D (va_A wc H.size) wf) (va_A wc H.size)) mc ms (va_A wc H.size)) (cw : va_CN R s args own index y host bytes maxL none ws rm mc ms n ∧ y.name = "<init>" ∧ (Cond.instanceMethod y).before args s = true) (hPc : va_P D vwCl wc H) (hDc : va_D A wc) (hK : va_K D vwCl (tyA Y) s) (hN : nestW s) (hS : va_S A H0 H locs) (hA : ∀ q, H0.size ≤ q → A q) (hn : As.length = n) (hsize : ls.size = nL) (hstack : st0 = As.reverse ++ .ref b :: rest) (hW : (rest.map fun v => v.category).sum ≤ 8) (hdg : decode cc pc = .ok (.invokespecial index, 3)) (hf : cells + mc ≤ R.cells ∧ slots + ms ≤ R.slots)
    (hfr : ∀ (u : S) (H1 : Heap), (∀ q : Nat, q < H.size → ¬ va_A wc H.size q → H1[q]? = H[q]?) → va_P D vwCl (wf u) H1 → va_D (va_A wc H.size) (wf u) → va_P D vwCl (wN u) H1 ∧ va_D A (wN u))
    (kk : ∀ (u : S) (H1 : Heap) (locs1 : List Loc), post u → va_P D vwCl (wN u) H1 → va_D A (wN u) → va_S A H0 H1 locs1 → W p l e R s m args below meth c H1 locs1 (cells + mc) (slots + ms) Q (F0 m (pc + 3) ls rest)) : W p l e R s m args below meth c H locs cells slots Q (F0 m pc ls st0) := by
  have hFc := va_A_in hDc hS hA
  refine va_callv (va_runIN (As := As) (rest := rest) S0 hM cw ⟨niPc_blind, fun U hU hWm => ⟨rfl, by rw [hU], by rw [hU]; exact hPc, va_K.moved hWm.alike hK, hDc.weaken (fun _ _ _ _ => trivial), hN.warm hWm⟩⟩ rfl hn hsize hstack (lv_room hW) hdg hf) hS (fun q _ h => hFc q h) hFc (fun u t H1 locs1 ht hvm hw hB hz1 hk1 hS1 => ?_)
  obtain ⟨h1, h2⟩ := hB
  rw [ht] at h1
  obtain ⟨a1, a2⟩ := hfr u H1 hk1 h1 h2
  exact kk u H1 locs1 hw a1 a2 hS1
end INN
theorem hdX0_init : yX0_init.cls ≠ "java/lang/invoke/MethodHandle" ∧ yX0_init.cls ≠ "java/lang/invoke/VarHandle" ∧ (parseMethodDescriptor yX0_init.desc).map (fun d => d.parameters.length) = some 0 := by decide +kernel
theorem gd_new {r : RV} (h : r.2 = rNew) : rGd r := by
  obtain ⟨a, n, f, z⟩ := r
  have h : (n, f, z) = rNew := h
  rw [rNew] at h
  obtain ⟨rfl, rfl, rfl⟩ : n = 8 ∧ f = (fun _ => 0) ∧ z = 0 := by
    injection h with h1 h2
    injection h2 with h2 h3
    exact ⟨h1, h2, h3⟩
  exact ⟨⟨by show 8 < _; omega, fun _ _ => rfl, by show 0 ≤ 8; omega⟩, by show 8 ≤ _; omega, by show 0 < _; omega⟩
theorem rc_new {r : RV} (h : r.2 = rNew) : rc (rN r) (rZ r + 1) = 0 := by
  obtain ⟨a, n, f, z⟩ := r
  have h : (n, f, z) = rNew := h
  rw [rNew] at h
  injection h with h1 h2
  injection h2 with h2 h3
  subst h1; subst h3
  rfl
/-- a picture just made: every row new, no object yet -/
def oFresh (t : OS) : Prop := (∀ k, k < 12 → (oR t k).2 = rNew) ∧ oCnt t = 0 ∧ oSv t = 0 ∧ oSto t = 0
theorem fresh_cost {t : OS} (h : oFresh t) : oAddC t = 0 := by
  have e : ∀ k, k < 12 → rc (rN (oR t k)) (rZ (oR t k) + 1) = 0 := fun k hk => rc_new (h.1 k hk)
  have e6 : cAddC (oCt t) = 0 := by
    show rc (rN (oR t 6)) (rZ (oR t 6) + 1) + rc (rN (oR t 7)) (rZ (oR t 7) + 1) + rc (rN (oR t 8)) (rZ (oR t 8) + 1) + rc (rN (oR t 9)) (rZ (oR t 9) + 1) + rc (rN (oR t 10)) (rZ (oR t 10) + 1) = 0
    rw [e 6 (by decide), e 7 (by decide), e 8 (by decide), e 9 (by decide), e 10 (by decide)]
  rw [oAddC, e 0 (by decide), e 1 (by decide), e 2 (by decide), e 3 (by decide), e 4 (by decide), e6]
abbrev kW (Y : Nat → ClassId) (kp : Nat) (f : Nat → Option Nat) : va_W := [(kp, .inl (Y 4, 3, .inr (.inr (.inr (.inr f)))))]
