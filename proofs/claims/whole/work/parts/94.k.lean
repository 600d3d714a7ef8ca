/-! the law's start: what the tables say -/
set_option maxRecDepth 20000 in
theorem tw_i : ∀ w ∈ ([.instantiable RJx00060 6, .instantiable RX0 7, .instantiable RX1 2, .instantiable RX2 10, .instantiable RX3 19, .arrayClass .int, .arrayClass .byte, .arrayClass .boolean, .arrayClass .long, .arrayOver (.object "ObjectRows$Changing")] : List Cond), w ∈ lw_tbl := by decide +kernel
set_option maxRecDepth 20000 in
theorem tw_n : ∀ w ∈ ([.methodLinkNest RX0 9 yX1_init "ObjectRows", .methodLinkNest RX2 11 yX1_init "ObjectRows", .methodLinkNest RX2 33 yX0_init "ObjectRows", .classLink RL 13 RJx00060, lsU, lsS, .stringRef RX2 109 "no such element"] : List Cond), w ∈ lw_tbl := by decide +kernel
set_option maxRecDepth 20000 in
theorem tw_t : ∀ w ∈ tAt, w ∈ lw_tbl := by decide +kernel
set_option maxRecDepth 20000 in
theorem tw_s : ∀ w ∈ Bundle.throwableSAtoms, w ∈ lw_tbl := by decide +kernel
set_option maxRecDepth 20000 in
theorem tw_c : ∀ w ∈ Bundle.chainSAtoms RJx00060 gNames, w ∈ lw_tbl := by decide +kernel
set_option maxRecDepth 20000 in
theorem tw_r : ∀ w ∈ ownR, w ∈ lw_tbl := by decide +kernel
theorem tw_o : ∀ w ∈ ownTab2, w ∈ lw_tbl := List.forall_mem_append.mpr ⟨List.forall_mem_append.mpr ⟨List.forall_mem_append.mpr ⟨tw_t, tw_s⟩, tw_c⟩, tw_r⟩
theorem lw_arr {s : State} {args : Array Value} {ty : FieldType} (h : (Cond.arrayClass ty).before args s = true) : ∃ cA, ArrOfT s cA ty ∧ s.vm.findClass ("[" ++ ty.toString) = some cA := by
  obtain ⟨cA, kA, comp, h1, h2, h3⟩ := Cond.arrayClass_spec h
  exact ⟨cA, fun n z => ⟨fun k h => (by cases h), kA, h2, comp, h3⟩, h1⟩
theorem lw_known {s : State} {args : Array Value} (hts : ∀ w ∈ lw_tbl, w.before args s = true) : ∃ (D : va_G) (Y : Nat → ClassId), va_K D vwCl (tyA Y) s := by
  have ti : ∀ w ∈ ([.instantiable RJx00060 6, .instantiable RX0 7, .instantiable RX1 2, .instantiable RX2 10, .instantiable RX3 19, .arrayClass .int, .arrayClass .byte, .arrayClass .boolean, .arrayClass .long, .arrayOver (.object "ObjectRows$Changing")] : List Cond), w.before args s = true := fun w h => hts w (tw_i w h)
  obtain ⟨c0, i0, h0⟩ := u_known hts inJx00060 (ti (.instantiable RJx00060 6) (by simp))
  obtain ⟨c1, i1, h1⟩ := u_known hts inX0 (ti (.instantiable RX0 7) (by simp))
  obtain ⟨c2, i2, h2⟩ := u_known hts inX1 (ti (.instantiable RX1 2) (by simp))
  obtain ⟨c3, i3, h3⟩ := u_known hts inX2 (ti (.instantiable RX2 10) (by simp))
  obtain ⟨c4, i4, h4⟩ := u_known hts inX3 (ti (.instantiable RX3 19) (by simp))
  obtain ⟨y0, a0, b0⟩ := lw_arr (ti (.arrayClass .int) (by simp))
  obtain ⟨y1, a1, b1⟩ := lw_arr (ti (.arrayClass .byte) (by simp))
  obtain ⟨y2, a2, b2⟩ := lw_arr (ti (.arrayClass .boolean) (by simp))
  obtain ⟨y3, a3, b3⟩ := lw_arr (ti (.arrayClass .long) (by simp))
  obtain ⟨comp, y4, kA, d1, d2, d3, d4, d5⟩ := Cond.arrayOver_spec (ti (.arrayOver (.object "ObjectRows$Changing")) (by simp))
  refine ⟨(fun k => match k with | 0 => c0 | 1 => c1 | 2 => c2 | 3 => c3 | _ => c4, fun k => match k with | 0 => i0 | 1 => i1 | 2 => i2 | 3 => i3 | _ => i4), (fun k => match k with | 0 => y0 | 1 => y1 | 2 => y2 | 3 => y3 | _ => y4), ?_, ?_⟩
  · intro c q hq
    rcases c with _ | _ | _ | _ | _ | c
    · cases hq; exact h0
    · cases hq; exact h1
    · cases hq; exact h2
    · cases hq; exact h3
    · cases hq; exact h4
    · cases hq
  · intro c q hq
    rcases c with _ | _ | _ | _ | _ | c
    · cases hq; exact ⟨a0, b0⟩
    · cases hq; exact ⟨a1, b1⟩
    · cases hq; exact ⟨a2, b2⟩
    · cases hq; exact ⟨a3, b3⟩
    · cases hq; exact ⟨fun n z => ⟨fun k h => (by cases h), kA, d3, comp, d4⟩, kA, comp, d3, d4, d1, d5⟩
    · cases hq
theorem lw_nest {s : State} {args : Array Value} (hts : ∀ w ∈ lw_tbl, w.before args s = true) : nestW s :=
  ⟨va_Nw.of rfl (hts _ (tw_n (.methodLinkNest RX0 9 yX1_init "ObjectRows") (by simp))), va_Nw.of rfl (hts _ (tw_n (.methodLinkNest RX2 11 yX1_init "ObjectRows") (by simp))), va_Nw.of rfl (hts _ (tw_n (.methodLinkNest RX2 33 yX0_init "ObjectRows") (by simp))), va_AO.of (hts _ (tw_i (.arrayOver (.object "ObjectRows$Changing")) (by simp)))⟩
theorem lw_thr {s : State} {b : Nat} (hts : ∀ w ∈ lw_tbl, w.before #[Value.ref b] s = true) (hgv : (Jvm.Cond.and given_1 narrow_1).before #[Value.ref b] s = true) : thrS2 s := by
  have hs := flat_of_before _ hgv
  have h1 : wUn.before #[Value.ref b] s = true := hs _ (by decide +kernel)
  have h2 : wSe.before #[Value.ref b] s = true := hs _ (by decide +kernel)
  have h3 : (Cond.exactly (.string RX2 109) "java/lang/String").before #[Value.ref b] s = true := hs _ (by decide +kernel)
  obtain ⟨q, c9, cell9, k9, e, -⟩ := Cond.exactly_spec h3
  exact ⟨⟨static_heap rfl (fun _ _ h _ => h) h1, static_heap rfl (fun _ _ h _ => h) h2, q, vk_R.of (hts _ (tw_n (.stringRef RX2 109 "no such element") (by simp))) e⟩, ls_heap rfl (fun _ _ h _ => h) (hts _ (tw_n lsU (by simp))), ls_heap rfl (fun _ _ h _ => h) (hts _ (tw_n lsS (by simp)))⟩
