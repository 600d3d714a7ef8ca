/-! THE CLAIM OUT OF ONE WALK OF THE LAW'S BODY. Your part is whole_start (and what it stands on); all else here is the same for every law, but numbers. -/
def R_law : String := "ObjectRowsLaw"
def lw_P (b : Addr) (xs : List Int32) (args : Array Value) (s : State) : Prop := args = #[.ref b] ∧ s.IntsAt b xs ∧ xs.length ≤ 2048 ∧ (Jvm.Cond.and given_1 narrow_1).before args s = true
def lw_Q (_ : Array Value) (s : State) (o : Outcome) (t : State) : Prop := o = .returned (some (.int 1)) ∧ Framed s o t [] room_1.cells room_1.slots
def lw_Z (below : List Frame) (a : Array Value) (s : State) : State → Prop := fun t => ∃ o, t.status = .running ∧ Ended t below o ∧ lw_Q a s o t
/-- the law's own end, with 1 on the stack, nothing written that was there before, its room as the claim has it -/
theorem lw_ret {p : Program} {l : Launch} {e : Env} {s : State} {m : MethodId} {below : List Frame} {meth : Method} {c : Code} {b : Nat} (hx : p.tables.exec = Jvm.exec) (hb : c.code = code) (hr : meth.sig.returnType = ret) (hlocks : meth.locks = false) {pc : Nat} {H : Heap} {ls : Array Slot} (hdg : decode code pc = .ok (.ireturn, 1)) : W p l e room_1 s m #[Value.ref b] below meth c H [] room_1.cells room_1.slots (lw_Z below #[Value.ref b] s) (F0 m pc ls [.int 1]) := by
  intro T hT X
  obtain ⟨fs, hret, hrun, hended, hW, hframe⟩ := X.leave (v := some (.int 1)) (hlocks := hlocks) (fun h => by rw [hr] at h; cases h)
  have hmeth' : T.vm.method? m = some meth := X.method'
  refine ⟨T.setFrames fs, ?_, .returned (some (.int 1)), hrun, hended, rfl, ⟨_, rfl⟩, hW, hframe⟩
  jvm_step X.here [X.here.top, hx, hb, hdg, hmeth', hr, ret, narrow_b1]
  (try refine ⟨rfl, ?_⟩); (try refine ⟨rfl, ?_⟩)
  first | (intro acts; rw [hret _ acts rfl rfl rfl]) | rw [hret _ _ rfl rfl rfl]
  exact Steps.refl _
/-- what holds at the law's entry: the machine, the code, the tables' words (any of lw_tbl by 'hts w (by decide +kernel)'), the script of L ints xs at the cell b, what the Statement gives of the start (any of its parts by flat_of_before) -/
def lw_At (p : Program) (s : State) (m : MethodId) (meth : Method) (c : Code) (b L : Nat) (xs : Nat → Int32) : Prop :=
  p.tables.exec = Jvm.exec ∧ c.code = code ∧ meth.sig.returnType = ret ∧ c.maxLocals = 7 ∧ s.vm.findClass R_law = some m.cls ∧ (∀ w ∈ lw_tbl, w.before #[Value.ref b] s = true) ∧ va_X b L xs s s.heap ∧ b < s.heap.size ∧ meth.locks = false ∧ (Jvm.Cond.and given_1 narrow_1).before #[Value.ref b] s = true
/-! the loop's invariant, the next round -/
def lCe (k : Nat) : Nat := 100 + 30 * k
def lSl (k : Nat) (t : OS) (K : Nat → Option (CA × CS)) : Nat := 48000 + 3310 * k + 2 * psi t K
def lX (xs : Nat → Int32) (k : Nat) (j : Int32) : Int32 := xs (nI (4 * k) + j).toNatClampNeg
abbrev lA (s : State) : Nat → Prop := fun q => s.heap.size ≤ q
def LC (p : Program) (s : State) (m : MethodId) (c : Code) (b L : Nat) (xs : Nat → Int32) (D : va_G) (Y : Nat → ClassId) : Prop :=
  p.tables.exec = Jvm.exec ∧ c.code = cL_law ∧ c.maxLocals = 7 ∧ s.vm.findClass RL = some m.cls ∧ (∀ w ∈ wsL_law, w.before #[Value.ref b] s = true) ∧ va_K D vwCl (tyA Y) s ∧ nestW s ∧ va_X b L xs s s.heap ∧ b < s.heap.size ∧ L ≤ 2048
def LSt (D : va_G) (Y : Nat → ClassId) (s : State) (H : Heap) (a : AS) (ad : OA) (t : OS) (K : Nat → Option (CA × CS)) (ma : MA) (S : MS) (ou : Nat) (f : Nat → Int64) : Prop :=
  RelA a t K S ∧ va_P D vwCl (lwW Y ad t K ma S ou f) H ∧ va_D (lA s) (lwW Y ad t K ma S ou f) ∧ va_S (lA s) s.heap H []
abbrev lLv (b k : Nat) (ad : OA) (ma : MA) (ou : Nat) : List (Nat × Value) := [(4, .int (nI (4 * k))), (0, .ref b), (1, .ref (oO ad)), (2, .ref (mO ma)), (3, .ref ou)]
def LN (p : Program) (l : Launch) (e : Env) (s : State) (m : MethodId) (below : List Frame) (meth : Method) (c : Code) (b k : Nat) (D : va_G) (Y : Nat → ClassId) : Prop :=
  ∀ (a : AS) (ad : OA) (t : OS) (K : Nat → Option (CA × CS)) (ma : MA) (S : MS) (ou : Nat) (f : Nat → Int64) (H : Heap) (ls : Array Slot), LSt D Y s H a ad t K ma S ou f → lv_has ls 7 (lLv b (k + 1) ad ma ou) → W p l e room_1 s m #[Value.ref b] below meth c H [] (lCe (k + 1)) (lSl (k + 1) t K) (lw_Z below #[Value.ref b] s) (F0 m 23 ls [])
section LWC
variable {p : Program} {l : Launch} {e : Env} {s : State} {m : MethodId} {below : List Frame} {meth : Method} {c : Code} {H : Heap} {cells slots : Nat} {b L k pc : Nat} {xs : Nat → Int32} {D : va_G} {Y : Nat → ClassId} {ls : Array Slot} {rest : List Value} {a : AS} {ad : OA} {t : OS} {K : Nat → Option (CA × CS)} {ma : MA} {S : MS} {ou : Nat} {f : Nat → Int64} {Q : State → Prop}
theorem nS {A : Nat → Prop} {H0 H : Heap} {locs : List Loc} (hS : va_S A H0 H locs) : va_S A H0 H [] := ⟨hS.1, hS.2.1, fun _ h => by cases h⟩
theorem l645 (C : LC p s m c b L xs D Y) (hN : LN p l e s m below meth c b k D Y) (hS : LSt D Y s H a ad t K ma S ou f) (hl : lv_has ls 7 (lLv b k ad ma ou)) (hc : cells ≤ lCe (k + 1)) (hs : slots ≤ lSl (k + 1) t K) : W p l e room_1 s m #[Value.ref b] below meth c H [] cells slots (lw_Z below #[Value.ref b] s) (F0 m 645 ls []) := by
  obtain ⟨hx, hb, hml, hown, hts, hK, hNe, hX, hbl, hL⟩ := C
  obtain ⟨z, ez⟩ : ∃ y : Int32, y = nI (4 * (k + 1)) := ⟨_, rfl⟩
  refine lv_iinc (v := z) (lv' := [(4, .int z), (0, .ref b), (1, .ref (oO ad)), (2, .ref (mO ma)), (3, .ref ou)]) hx hb dL_law_645 hl (k := 0) rfl (by rw [ez, Nat.mul_add]; exact nI_add (4 * k) 4) (by decide) rfl (fun ls hl => ?_)
  refine lv_goto (tgt := 23) hx hb dL_law_648 (by decide) ?_
  refine W.widen (k := lCe (k + 1)) (n := lSl (k + 1) t K) hc hs ?_
  rw [ez] at hl
  exact hN a ad t K ma S ou f H ls hS hl
theorem lw_in (C : LC p s m c b L xs D Y) (hk : 4 * k + 4 ≤ L) (j : Nat) (hj : j < 4) : vp_in (nI (4 * k) + nI j) L := by
  have hL := C.2.2.2.2.2.2.2.2.2
  rw [nI_add]
  exact vp_in_nI (by omega) (by omega)
theorem lw_a1 (C : LC p s m c b L xs D Y) (hk : 4 * k + 4 ≤ L) (hS : va_S (lA s) s.heap H []) (hl : lv_has ls 7 (lLv b k ad ma ou)) (h0 : decode cL_law pc = .ok (.aload_n 0, 1)) (h1 : decode cL_law (pc + 1) = .ok (.iload 4, 2)) (h2 : decode cL_law (pc + 1 + 2) = .ok (.iconst 1, 1)) (h3 : decode cL_law (pc + 1 + 2 + 1) = .ok (.iadd, 1)) (h4 : decode cL_law (pc + 1 + 2 + 1 + 1) = .ok (.iaload, 1)) (kk : W p l e room_1 s m #[Value.ref b] below meth c H [] cells slots Q (F0 m (pc + 6) ls (.int (lX xs k 1) :: rest))) : W p l e room_1 s m #[Value.ref b] below meth c H [] cells slots Q (F0 m pc ls rest) := by
  have C' := C
  obtain ⟨hx, hb, hml, hown, hts, hK, hNe, hX, hbl, hL⟩ := C'
  refine lv_aload_n hx hb h0 rfl (lv_at hl 1 rfl) ?_
  refine lv_iload hx hb h1 (lv_at hl 0 rfl) ?_
  refine lv_iconst (v := 1) hx hb h2 (by decide) ?_
  refine lv_iadd hx hb h3 ?_
  refine va_sld hx hb hX hbl (Nat.not_le.mpr hbl) hS (lw_in C hk 1 (by omega)) h4 ?_
  exact kk
theorem lw_a2 (C : LC p s m c b L xs D Y) (hk : 4 * k + 4 ≤ L) (hS : va_S (lA s) s.heap H []) (hl : lv_has ls 7 (lLv b k ad ma ou)) (h0 : decode cL_law pc = .ok (.aload_n 0, 1)) (h1 : decode cL_law (pc + 1) = .ok (.iload 4, 2)) (h2 : decode cL_law (pc + 1 + 2) = .ok (.iconst 2, 1)) (h3 : decode cL_law (pc + 1 + 2 + 1) = .ok (.iadd, 1)) (h4 : decode cL_law (pc + 1 + 2 + 1 + 1) = .ok (.iaload, 1)) (kk : W p l e room_1 s m #[Value.ref b] below meth c H [] cells slots Q (F0 m (pc + 6) ls (.int (lX xs k 2) :: rest))) : W p l e room_1 s m #[Value.ref b] below meth c H [] cells slots Q (F0 m pc ls rest) := by
  have C' := C
  obtain ⟨hx, hb, hml, hown, hts, hK, hNe, hX, hbl, hL⟩ := C'
  refine lv_aload_n hx hb h0 rfl (lv_at hl 1 rfl) ?_
  refine lv_iload hx hb h1 (lv_at hl 0 rfl) ?_
  refine lv_iconst (v := 2) hx hb h2 (by decide) ?_
  refine lv_iadd hx hb h3 ?_
  refine va_sld hx hb hX hbl (Nat.not_le.mpr hbl) hS (lw_in C hk 2 (by omega)) h4 ?_
  exact kk
theorem lw_a3 (C : LC p s m c b L xs D Y) (hk : 4 * k + 4 ≤ L) (hS : va_S (lA s) s.heap H []) (hl : lv_has ls 7 (lLv b k ad ma ou)) (h0 : decode cL_law pc = .ok (.aload_n 0, 1)) (h1 : decode cL_law (pc + 1) = .ok (.iload 4, 2)) (h2 : decode cL_law (pc + 1 + 2) = .ok (.iconst 3, 1)) (h3 : decode cL_law (pc + 1 + 2 + 1) = .ok (.iadd, 1)) (h4 : decode cL_law (pc + 1 + 2 + 1 + 1) = .ok (.iaload, 1)) (kk : W p l e room_1 s m #[Value.ref b] below meth c H [] cells slots Q (F0 m (pc + 6) ls (.int (lX xs k 3) :: rest))) : W p l e room_1 s m #[Value.ref b] below meth c H [] cells slots Q (F0 m pc ls rest) := by
  have C' := C
  obtain ⟨hx, hb, hml, hown, hts, hK, hNe, hX, hbl, hL⟩ := C'
  refine lv_aload_n hx hb h0 rfl (lv_at hl 1 rfl) ?_
  refine lv_iload hx hb h1 (lv_at hl 0 rfl) ?_
  refine lv_iconst (v := 3) hx hb h2 (by decide) ?_
  refine lv_iadd hx hb h3 ?_
  refine va_sld hx hb hX hbl (Nat.not_le.mpr hbl) hS (lw_in C hk 3 (by omega)) h4 ?_
  exact kk
end LWC
